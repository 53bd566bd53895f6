import java.util.Arrays;

/** The saving of old films. The document ../shared/DOC.md says what each call promises. */
public final class Reelrescue {
    public static final int NONE = -1;
    public static final int NITRATE = 0, ACETATE = 1;

    private static final int MOST_REELS = 12;
    private static final int MOST_REEL_FRAMES = 60;
    private static final int MOST_VERSIONS = 6;
    private static final int MOST_SHOTS = 10;
    private static final int MOST_CODES = 120;
    private static final int MOST_SCRAPS = 100;
    private static final int MOST_RIGHTS = 40;
    // An object is used for 512 calls, and one call changes each frame at most once.
    private static final int MOST_CHANGES = 512 * MOST_CODES;
    private static final int LAST_CODE = 999;
    private static final int LAST_LAND = 3;
    private static final int LAST_HOLDER = 9;
    private static final int LAST_TINT = 9;
    private static final int POINTS = 8;
    private static final int BRIGHTEST = 255;
    private static final int FARTHEST = POINTS * BRIGHTEST;
    private static final int FIRST_YEAR = 1890;
    private static final int START_YEAR = 2000;
    private static final int LAST_VERSION_YEAR = 2100;
    private static final int LAST_YEAR = 2200;
    private static final int MOST_YEARS = 100;
    private static final int UNREADABLE_DECAY = 300;
    private static final int COPY_DECAY = 200;
    private static final int SLOWEST = 8;
    private static final int FASTEST = 30;
    private static final int START_SPEED = 16;
    private static final int START_TOLERANCE = 40;
    private static final int START_LIMIT = 4;
    private static final long START_SUM = 1469598103934665603L;
    private static final long SUM_FACTOR = 1099511628211L;

    private final Reel[] reels = new Reel[MOST_REELS];
    private int reelCount = 0;
    private int yearNow = START_YEAR;
    private int tolerance = START_TOLERANCE;
    private final Pairing pairing = new Pairing();
    private final Version[] versions = new Version[MOST_VERSIONS];
    private int versionCount = 0;
    private int rightCount = 0;
    private final Scraps scraps = new Scraps();
    private final Edition edition = new Edition();

    public Reelrescue() {
        for (int i = 0; i < MOST_REELS; i++) {
            reels[i] = new Reel();
        }
        for (int i = 0; i < MOST_VERSIONS; i++) {
            versions[i] = new Version();
        }
    }

    // ---- reels

    public int reel(int base, int year, int land, int parent, int decay)
            throws IndexOutOfBoundsException, IllegalArgumentException, IllegalStateException {
        int generation = parent == NONE ? 0 : reelNumbered(parent).generation + 1;
        needInRange(isWithin(base, NITRATE, ACETATE) && isWithin(year, FIRST_YEAR, START_YEAR)
                && isWithin(land, 0, LAST_LAND) && isWithin(decay, 0, UNREADABLE_DECAY - 1));
        needPossible(reelCount < MOST_REELS);
        reels[reelCount].begin(base, year, land, generation, decay);
        reelCount++;
        return reelCount - 1;
    }

    public int frame(int reel, int code, int first, int last)
            throws IndexOutOfBoundsException, IllegalArgumentException, IllegalStateException {
        Reel longer = reelNumbered(reel);
        needInRange(isWithin(code, 0, LAST_CODE));
        needPossible(longer.frameCount < MOST_REEL_FRAMES);
        longer.addFrame(code, ((long) last << 32) | (first & 0xFFFFFFFFL));
        return longer.frameCount;
    }

    public int splice(int reel, int place) throws IndexOutOfBoundsException {
        Reel spliced = reelNumbered(reel);
        needPlace(place, spliced.frameCount);
        spliced.addSplice(place);
        return spliced.spliceCount;
    }

    public int cold(int reel, boolean cold) throws IndexOutOfBoundsException {
        Reel kept = reelNumbered(reel);
        kept.isCold = cold;
        return kept.yearToCopy(yearNow);
    }

    public int copy(int reel) throws IndexOutOfBoundsException, IllegalStateException {
        Reel original = reelNumbered(reel);
        needPossible(original.canBeRead() && reelCount < MOST_REELS);
        Reel made = reels[reelCount];
        made.begin(ACETATE, yearNow, original.land, original.generation + 1, 0);
        made.printFrom(original);
        reelCount++;
        return reelCount - 1;
    }

    public int ofReel(int reel, int what) throws IndexOutOfBoundsException, IllegalArgumentException {
        Reel told = reelNumbered(reel);
        switch (what) {
            case 0: return told.frameCount;
            case 1: return told.generation;
            case 2: return told.decay;
            case 3: return told.canBeRead() ? 1 : 0;
            case 4: return told.jumps();
            case 5: return told.missingCodes();
            case 6: return told.faults();
            case 7: return guessedParent(reel);
            case 8: return told.year;
            default: throw new IllegalArgumentException("no such what");
        }
    }

    public int tolerance(int tolerance) throws IllegalArgumentException {
        needInRange(isWithin(tolerance, 0, FARTHEST));
        int before = this.tolerance;
        this.tolerance = tolerance;
        return before;
    }

    public int align(int reel, int other) throws IndexOutOfBoundsException, IllegalStateException {
        Reel first = reelNumbered(reel);
        Reel second = reelNumbered(other);
        needPossible(first.canBeRead() && second.canBeRead());
        return pairing.mostPairs(first, second, tolerance);
    }

    public int pairOf(int reel, int place, int other) throws IndexOutOfBoundsException, IllegalStateException {
        Reel first = reelNumbered(reel);
        Reel second = reelNumbered(other);
        needPlace(place, first.frameCount);
        needPossible(first.canBeRead() && second.canBeRead());
        return pairing.partner(first, place, second, tolerance);
    }

    public float alike(int reel, int place, int other, int there) throws IndexOutOfBoundsException {
        Reel first = reelNumbered(reel);
        Reel second = reelNumbered(other);
        needPlace(place, first.frameCount);
        needPlace(there, second.frameCount);
        int distance = Points.distance(first.frames[place], second.frames[there]);
        return 1.0f - (float) distance / 2040.0f;
    }

    // ---- versions

    public int version(int land, int year) throws IllegalArgumentException, IllegalStateException {
        needInRange(isWithin(land, 0, LAST_LAND) && isWithin(year, FIRST_YEAR, LAST_VERSION_YEAR));
        needPossible(versionCount < MOST_VERSIONS);
        versions[versionCount].begin(land, year);
        versionCount++;
        return versionCount - 1;
    }

    public int shot(int version, int from, int to)
            throws IndexOutOfBoundsException, IllegalArgumentException, IllegalStateException {
        Version longer = versionNumbered(version);
        needInRange(isWithin(from, 0, LAST_CODE) && isWithin(to, from, LAST_CODE));
        needPossible(longer.shotCount < MOST_SHOTS && longer.codeCount + to - from + 1 <= MOST_CODES);
        longer.addShot(from, to);
        return longer.codeCount;
    }

    public int proof(int version) throws IndexOutOfBoundsException {
        Version proved = versionNumbered(version);
        proved.proofs++;
        return proved.proofs;
    }

    public int speed(int version, int shot, int speed) throws IndexOutOfBoundsException, IllegalArgumentException {
        Version run = versionNumbered(version);
        needPlace(shot, run.shotCount);
        needInRange(isWithin(speed, SLOWEST, FASTEST));
        int before = run.speeds[shot];
        run.speeds[shot] = speed;
        return before;
    }

    public int ofVersion(int version, int what) throws IndexOutOfBoundsException, IllegalArgumentException {
        Version told = versionNumbered(version);
        switch (what) {
            case 0: return told.codeCount;
            case 1: return codesThatCanBeRead(told);
            case 2: return Math.min(told.proofs, 2);
            case 3: return told.duration();
            case 4: return told.land;
            case 5: return told.year;
            default: throw new IllegalArgumentException("no such what");
        }
    }

    public int scrap(int code, int tint) throws IllegalArgumentException, IllegalStateException {
        needInRange(isWithin(code, 0, LAST_CODE) && isWithin(tint, 0, LAST_TINT));
        needPossible(scraps.count < MOST_SCRAPS);
        scraps.add(code, tint);
        return scraps.withCode(code);
    }

    public int tint(int version, int shot) throws IndexOutOfBoundsException {
        Version tinted = versionNumbered(version);
        needPlace(shot, tinted.shotCount);
        return scraps.tintOfCodes(tinted.froms[shot], tinted.tos[shot]);
    }

    public int right(int version, int holder, int land, int from, int to)
            throws IndexOutOfBoundsException, IllegalArgumentException, IllegalStateException {
        Version owned = versionNumbered(version);
        needPlace(holder, LAST_HOLDER + 1);
        needInRange(isWithin(land, 0, LAST_LAND) && isWithin(from, FIRST_YEAR, LAST_YEAR) && isWithin(to, from, LAST_YEAR));
        needPossible(rightCount < MOST_RIGHTS);
        owned.addRight(holder, land, from, to);
        rightCount++;
        return owned.rightCount;
    }

    public boolean allow(int version, int holder, boolean allows) throws IndexOutOfBoundsException {
        Version owned = versionNumbered(version);
        needPlace(holder, LAST_HOLDER + 1);
        boolean before = owned.allowed[holder];
        owned.allowed[holder] = allows;
        return before;
    }

    public boolean mayShow(int version, int land, int year) throws IndexOutOfBoundsException, IllegalArgumentException {
        Version shown = versionNumbered(version);
        needInRange(isWithin(land, 0, LAST_LAND) && isWithin(year, FIRST_YEAR, LAST_YEAR));
        return shown.isFreeIn(land, year);
    }

    // ---- the edition

    public int edition(int version) throws IndexOutOfBoundsException {
        Version made = versionNumbered(version);
        edition.begin();
        for (int shot = 0; shot < made.shotCount; shot++) {
            for (int code = made.froms[shot]; code <= made.tos[shot]; code++) {
                takeCode(code);
            }
        }
        return edition.gaps();
    }

    public boolean protect(int place, boolean protects) throws IndexOutOfBoundsException {
        EditionFrame kept = editionFrameAt(place);
        boolean before = kept.isProtected;
        kept.isProtected = protects;
        return before;
    }

    public int limit(int limit) throws IllegalArgumentException {
        needInRange(isWithin(limit, 0, POINTS));
        int before = edition.limit;
        edition.limit = limit;
        return before;
    }

    public int dirt(int threshold) throws IllegalArgumentException {
        needInRange(isWithin(threshold, 0, BRIGHTEST));
        return edition.mendByNeighbours(new DirtMending(threshold));
    }

    public int scratch(int point, int from, int to, int threshold)
            throws IndexOutOfBoundsException, IllegalArgumentException {
        needPlace(from, edition.count);
        needPlace(to, edition.count);
        needInRange(isWithin(point, 1, POINTS - 2) && isWithin(threshold, 0, BRIGHTEST) && from <= to);
        return edition.mendScratch(point, from, to, threshold);
    }

    public int flicker() {
        return edition.mendByNeighbours(new FlickerMending());
    }

    public int takeBack(int change) throws IndexOutOfBoundsException, IllegalStateException {
        needPlace(change, edition.changes.count);
        needPossible(edition.isOnTop(change));
        return edition.undo(change);
    }

    public int ofFrame(int place, int what) throws IndexOutOfBoundsException, IllegalArgumentException {
        EditionFrame told = editionFrameAt(place);
        switch (what) {
            case 0: return told.code;
            case 1: return told.reel;
            case 2: return told.place;
            case 3: return Points.unlike(told.now, told.taken);
            case 4: return told.changeCount;
            default: throw new IllegalArgumentException("no such what");
        }
    }

    public long seen(int place) throws IndexOutOfBoundsException {
        return editionFrameAt(place).now;
    }

    public long sum(boolean mended) {
        return edition.checksum(mended);
    }

    public int pass(int years) throws IllegalArgumentException, IllegalStateException {
        needInRange(isWithin(years, 1, MOST_YEARS));
        needPossible(yearNow + years <= LAST_YEAR);
        yearNow += years;
        for (int i = 0; i < reelCount; i++) {
            reels[i].decay += years * reels[i].yearlyDecay();
        }
        return yearNow;
    }

    // ---- what the calls share

    private static boolean isWithin(int value, int least, int greatest) {
        return value >= least && value <= greatest;
    }

    private static void needInRange(boolean inRange) {
        if (!inRange) {
            throw new IllegalArgumentException("out of range");
        }
    }

    private static void needPossible(boolean possible) {
        if (!possible) {
            throw new IllegalStateException("not possible now");
        }
    }

    private static void needPlace(int place, int count) {
        if (place < 0 || place >= count) {
            throw new IndexOutOfBoundsException("no such place");
        }
    }

    private Reel reelNumbered(int number) {
        needPlace(number, reelCount);
        return reels[number];
    }

    private Version versionNumbered(int number) {
        needPlace(number, versionCount);
        return versions[number];
    }

    private EditionFrame editionFrameAt(int place) {
        needPlace(place, edition.count);
        return edition.frames[place];
    }

    private int guessedParent(int number) {
        Reel child = reels[number];
        int guessed = NONE;
        int mostFaults = NONE;
        for (int i = 0; i < reelCount; i++) {
            Reel other = reels[i];
            boolean isEarlier = other.year < child.year || other.year == child.year && i < number;
            if (isEarlier && child.hasFaultsOf(other) && other.faults() > mostFaults) {
                guessed = i;
                mostFaults = other.faults();
            }
        }
        return guessed;
    }

    private int bestReelWith(int code) {
        int best = NONE;
        for (int i = 0; i < reelCount; i++) {
            Reel reel = reels[i];
            if (reel.canBeRead() && reel.hasCode(code) && (best == NONE || reel.isBetterThan(reels[best]))) {
                best = i;
            }
        }
        return best;
    }

    private int codesThatCanBeRead(Version version) {
        int readable = 0;
        for (int shot = 0; shot < version.shotCount; shot++) {
            for (int code = version.froms[shot]; code <= version.tos[shot]; code++) {
                if (bestReelWith(code) != NONE) {
                    readable++;
                }
            }
        }
        return readable;
    }

    private void takeCode(int code) {
        int best = bestReelWith(code);
        if (best == NONE) {
            edition.take(code, NONE, NONE, 0L);
            return;
        }
        int place = reels[best].firstPlaces[code];
        edition.take(code, best, place, reels[best].frames[place]);
    }

    /** What is told of frames as longs of 8 points. */
    private static final class Points {
        static int at(long frame, int point) {
            return (int) (frame >>> (8 * point)) & BRIGHTEST;
        }

        static long with(long frame, int point, int value) {
            int shift = 8 * point;
            return (frame & ~((long) BRIGHTEST << shift)) | ((long) value << shift);
        }

        static int distance(long frame, long other) {
            int distance = 0;
            for (int point = 0; point < POINTS; point++) {
                distance += Math.abs(at(frame, point) - at(other, point));
            }
            return distance;
        }

        static int unlike(long frame, long other) {
            int unlike = 0;
            for (int point = 0; point < POINTS; point++) {
                if (at(frame, point) != at(other, point)) {
                    unlike++;
                }
            }
            return unlike;
        }

        static int total(long frame) {
            int total = 0;
            for (int point = 0; point < POINTS; point++) {
                total += at(frame, point);
            }
            return total;
        }
    }

    private static final class Reel {
        int base;
        int year;
        int land;
        int generation;
        int decay;
        boolean isCold;
        int frameCount;
        int spliceCount;
        int leastCode;
        int greatestCode;
        final int[] codes = new int[MOST_REEL_FRAMES];
        final long[] frames = new long[MOST_REEL_FRAMES];
        final boolean[] spliced = new boolean[MOST_REEL_FRAMES];
        // By code: many codes of many reels are asked for at once, so they are not searched for each time.
        final int[] firstPlaces = new int[LAST_CODE + 1];
        final boolean[] splicedCodes = new boolean[LAST_CODE + 1];

        void begin(int base, int year, int land, int generation, int decay) {
            this.base = base;
            this.year = year;
            this.land = land;
            this.generation = generation;
            this.decay = decay;
            // So no code lies between them as long as there is no frame.
            leastCode = LAST_CODE + 1;
            greatestCode = NONE;
            Arrays.fill(firstPlaces, NONE);
        }

        void addFrame(int code, long frame) {
            codes[frameCount] = code;
            frames[frameCount] = frame;
            if (firstPlaces[code] == NONE) {
                firstPlaces[code] = frameCount;
            }
            leastCode = Math.min(leastCode, code);
            greatestCode = Math.max(greatestCode, code);
            frameCount++;
        }

        void addSplice(int place) {
            if (!spliced[place]) {
                spliced[place] = true;
                splicedCodes[codes[place]] = true;
                spliceCount++;
            }
        }

        void printFrom(Reel original) {
            for (int place = 0; place < original.frameCount; place++) {
                addFrame(original.codes[place], original.frames[place]);
                if (original.spliced[place]) {
                    addSplice(place);
                }
            }
        }

        int yearlyDecay() {
            int warm = base == NITRATE ? 3 : 2;
            return isCold ? Math.max(1, warm / 3) : warm;
        }

        boolean canBeRead() {
            return decay < UNREADABLE_DECAY;
        }

        int yearToCopy(int now) {
            int yearly = yearlyDecay();
            if (decay >= COPY_DECAY || yearly < 1) {
                return now;
            }
            return now + (COPY_DECAY - decay + yearly - 1) / yearly;
        }

        boolean hasCode(int code) {
            return firstPlaces[code] != NONE;
        }

        boolean isBetterThan(Reel other) {
            return decay < other.decay || decay == other.decay && generation < other.generation;
        }

        int jumps() {
            int jumps = 0;
            for (int place = 1; place < frameCount; place++) {
                if (codes[place] != codes[place - 1] + 1) {
                    jumps++;
                }
            }
            return jumps;
        }

        int missingCodes() {
            int missing = 0;
            for (int code = leastCode; code <= greatestCode; code++) {
                if (!hasCode(code)) {
                    missing++;
                }
            }
            return missing;
        }

        boolean isFault(int code) {
            return splicedCodes[code] || code > leastCode && code < greatestCode && !hasCode(code);
        }

        int faults() {
            int faults = 0;
            for (int code = leastCode; code <= greatestCode; code++) {
                if (isFault(code)) {
                    faults++;
                }
            }
            return faults;
        }

        boolean hasFaultsOf(Reel other) {
            for (int code = other.leastCode; code <= other.greatestCode; code++) {
                if (other.isFault(code) && !isFault(code)) {
                    return false;
                }
            }
            return true;
        }
    }

    /** Aligns two reels in a table that is made once and used for all of them. */
    private static final class Pairing {
        // How many pairs the first so many frames of both can have.
        final int[][] most = new int[MOST_REEL_FRAMES + 1][MOST_REEL_FRAMES + 1];

        int mostPairs(Reel first, Reel second, int tolerance) {
            for (int i = 1; i <= first.frameCount; i++) {
                for (int j = 1; j <= second.frameCount; j++) {
                    most[i][j] = canPair(first, i - 1, second, j - 1, tolerance)
                            ? most[i - 1][j - 1] + 1
                            : Math.max(most[i - 1][j], most[i][j - 1]);
                }
            }
            return most[first.frameCount][second.frameCount];
        }

        int partner(Reel first, int place, Reel second, int tolerance) {
            mostPairs(first, second, tolerance);
            int i = first.frameCount;
            int j = second.frameCount;
            // When i has come down to the place, its frame has been left.
            while (i > place && j > 0) {
                // Pairing the last frames, where they can be, never leaves fewer pairs.
                if (canPair(first, i - 1, second, j - 1, tolerance)) {
                    if (i - 1 == place) {
                        return j - 1;
                    }
                    i--;
                    j--;
                } else if (most[i - 1][j] == most[i][j]) {
                    i--;
                } else {
                    j--;
                }
            }
            return NONE;
        }

        private static boolean canPair(Reel first, int place, Reel second, int there, int tolerance) {
            return Points.distance(first.frames[place], second.frames[there]) <= tolerance;
        }
    }

    private static final class Version {
        int land;
        int year;
        int proofs;
        int shotCount;
        int codeCount;
        final int[] froms = new int[MOST_SHOTS];
        final int[] tos = new int[MOST_SHOTS];
        final int[] speeds = new int[MOST_SHOTS];
        int rightCount;
        final int[] rightHolders = new int[MOST_RIGHTS];
        final int[] rightLands = new int[MOST_RIGHTS];
        final int[] rightFroms = new int[MOST_RIGHTS];
        final int[] rightTos = new int[MOST_RIGHTS];
        final boolean[] allowed = new boolean[LAST_HOLDER + 1];

        void begin(int land, int year) {
            this.land = land;
            this.year = year;
        }

        void addShot(int from, int to) {
            froms[shotCount] = from;
            tos[shotCount] = to;
            speeds[shotCount] = START_SPEED;
            shotCount++;
            codeCount += to - from + 1;
        }

        int duration() {
            int duration = 0;
            for (int shot = 0; shot < shotCount; shot++) {
                int speed = speeds[shot];
                if (speed > 0) {
                    duration += (tos[shot] - froms[shot] + 1) * 1000 / speed;
                }
            }
            return duration;
        }

        void addRight(int holder, int land, int from, int to) {
            rightHolders[rightCount] = holder;
            rightLands[rightCount] = land;
            rightFroms[rightCount] = from;
            rightTos[rightCount] = to;
            rightCount++;
        }

        boolean isFreeIn(int land, int year) {
            for (int i = 0; i < rightCount; i++) {
                boolean holds = rightLands[i] == land && isWithin(year, rightFroms[i], rightTos[i]);
                if (holds && !allowed[rightHolders[i]]) {
                    return false;
                }
            }
            return true;
        }
    }

    private static final class Scraps {
        int count;
        final int[] codes = new int[MOST_SCRAPS];
        final int[] tints = new int[MOST_SCRAPS];
        final int[] votes = new int[LAST_TINT + 1];

        void add(int code, int tint) {
            codes[count] = code;
            tints[count] = tint;
            count++;
        }

        int withCode(int code) {
            int found = 0;
            for (int i = 0; i < count; i++) {
                if (codes[i] == code) {
                    found++;
                }
            }
            return found;
        }

        int tintOfCodes(int from, int to) {
            Arrays.fill(votes, 0);
            for (int i = 0; i < count; i++) {
                if (isWithin(codes[i], from, to)) {
                    votes[tints[i]]++;
                }
            }
            int winner = NONE;
            int mostVotes = 0;
            for (int tint = 0; tint <= LAST_TINT; tint++) {
                if (votes[tint] > mostVotes) {
                    winner = tint;
                    mostVotes = votes[tint];
                }
            }
            return winner;
        }
    }

    private static final class EditionFrame {
        int code;
        int reel;
        int place;
        long taken;
        long now;
        boolean isProtected;
        int changeCount;
        // The latest change that was not taken back.
        int topChange;

        void begin(int code, int reel, int place, long taken) {
            this.code = code;
            this.reel = reel;
            this.place = place;
            this.taken = taken;
            now = taken;
            isProtected = false;
            changeCount = 0;
            topChange = NONE;
        }

        boolean isGap() {
            return reel == NONE;
        }

        boolean mayBeMended() {
            return !isProtected && !isGap();
        }
    }

    /** The changes of an edition. The rows grow with them: most editions have few. */
    private static final class Changes {
        int count;
        int[] places = new int[MOST_CODES];
        long[] before = new long[MOST_CODES];
        // The change of the same frame that is on top again, when this one is taken back.
        int[] below = new int[MOST_CODES];

        boolean isFull() {
            return count >= MOST_CHANGES;
        }

        int add(int place, long frame, int topChange) {
            if (count >= places.length) {
                int longer = Math.min(2 * count, MOST_CHANGES);
                places = Arrays.copyOf(places, longer);
                before = Arrays.copyOf(before, longer);
                below = Arrays.copyOf(below, longer);
            }
            places[count] = place;
            before[count] = frame;
            below[count] = topChange;
            count++;
            return count - 1;
        }
    }

    private static final class Edition {
        int count;
        int limit = START_LIMIT;
        final EditionFrame[] frames = new EditionFrame[MOST_CODES];
        final Changes changes = new Changes();

        Edition() {
            for (int i = 0; i < MOST_CODES; i++) {
                frames[i] = new EditionFrame();
            }
        }

        void begin() {
            count = 0;
            changes.count = 0;
        }

        void take(int code, int reel, int place, long frame) {
            if (count < MOST_CODES) {
                frames[count].begin(code, reel, place, frame);
                count++;
            }
        }

        int gaps() {
            int gaps = 0;
            for (int i = 0; i < count; i++) {
                if (frames[i].isGap()) {
                    gaps++;
                }
            }
            return gaps;
        }

        int mendByNeighbours(NeighbourMending mending) {
            int made = 0;
            // The frame ahead as it was: the one in the edition may have been mended by now.
            long ahead = frames[0].now;
            for (int i = 1; i < count - 1; i++) {
                long here = frames[i].now;
                if (frames[i - 1].mayBeMended() && frames[i].mayBeMended() && frames[i + 1].mayBeMended()
                        && change(i, mending.mended(ahead, here, frames[i + 1].now))) {
                    made++;
                }
                ahead = here;
            }
            return made;
        }

        int mendScratch(int point, int from, int to, int threshold) {
            for (int i = from; i <= to; i++) {
                if (frames[i].mayBeMended() && !isScratched(frames[i].now, point, threshold)) {
                    return 0;
                }
            }
            int made = 0;
            for (int i = from; i <= to; i++) {
                long now = frames[i].now;
                int between = (Points.at(now, point - 1) + Points.at(now, point + 1)) / 2;
                if (frames[i].mayBeMended() && change(i, Points.with(now, point, between))) {
                    made++;
                }
            }
            return made;
        }

        private static boolean isScratched(long frame, int point, int threshold) {
            int beside = Math.max(Points.at(frame, point - 1), Points.at(frame, point + 1));
            return Points.at(frame, point) - beside > threshold;
        }

        /** Makes a change of a frame, if it changes anything and the limit lets it. */
        private boolean change(int place, long mended) {
            EditionFrame frame = frames[place];
            if (mended == frame.now || Points.unlike(mended, frame.taken) > limit || changes.isFull()) {
                return false;
            }
            frame.topChange = changes.add(place, frame.now, frame.topChange);
            frame.changeCount++;
            frame.now = mended;
            return true;
        }

        // A change that is not on top was taken back, or has a later one of its frame above it.
        boolean isOnTop(int change) {
            return frames[changes.places[change]].topChange == change;
        }

        int undo(int change) {
            int place = changes.places[change];
            EditionFrame frame = frames[place];
            frame.now = changes.before[change];
            frame.topChange = changes.below[change];
            frame.changeCount--;
            return place;
        }

        long checksum(boolean mended) {
            long checksum = START_SUM;
            for (int i = 0; i < count; i++) {
                checksum = (checksum ^ (mended ? frames[i].now : frames[i].taken)) * SUM_FACTOR;
            }
            return checksum;
        }
    }

    /** A mending that looks at a frame and at both of its neighbours. */
    private abstract static class NeighbourMending {
        abstract long mended(long ahead, long here, long behind);
    }

    private static final class DirtMending extends NeighbourMending {
        final int threshold;

        DirtMending(int threshold) {
            this.threshold = threshold;
        }

        long mended(long ahead, long here, long behind) {
            long mended = here;
            for (int point = 0; point < POINTS; point++) {
                int before = Points.at(ahead, point);
                int after = Points.at(behind, point);
                if (isDirty(before, Points.at(here, point), after)) {
                    mended = Points.with(mended, point, (before + after) / 2);
                }
            }
            return mended;
        }

        private boolean isDirty(int before, int value, int after) {
            return Math.abs(value - before) > threshold && Math.abs(value - after) > threshold
                    && Math.abs(before - after) <= threshold;
        }
    }

    private static final class FlickerMending extends NeighbourMending {
        long mended(long ahead, long here, long behind) {
            int wanted = (Points.total(ahead) + Points.total(behind)) / 2;
            int more = (wanted - Points.total(here)) / 8;
            long mended = here;
            for (int point = 0; point < POINTS; point++) {
                int value = Math.max(0, Math.min(BRIGHTEST, Points.at(here, point) + more));
                mended = Points.with(mended, point, value);
            }
            return mended;
        }
    }
}
