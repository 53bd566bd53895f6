import java.math.BigInteger;
import java.util.ArrayList;
import java.util.HashMap;
import java.util.List;
import java.util.Map;
import java.util.Set;
import java.util.TreeSet;

/** The document once more, told slowly with the Java library, to compare the program with. */
final class Model {
    static final class Frame {
        int code;
        int[] points;
        boolean splice;
    }

    static final class Reel {
        int base;
        int year;
        int generation;
        int decay;
        boolean cold;
        final List<Frame> frames = new ArrayList<>();

        int rate() {
            int full = base == 0 ? 3 : 2;
            return cold ? Math.max(full / 3, 1) : full;
        }

        boolean readable() {
            return decay < 300;
        }

        Set<Integer> codes() {
            Set<Integer> codes = new TreeSet<>();
            frames.forEach(frame -> codes.add(frame.code));
            return codes;
        }

        Set<Integer> missing() {
            TreeSet<Integer> codes = (TreeSet<Integer>) codes();
            Set<Integer> missing = new TreeSet<>();
            if (!codes.isEmpty()) {
                for (int code = codes.first(); code < codes.last(); code++) {
                    missing.add(code);
                }
                missing.removeAll(codes);
            }
            return missing;
        }

        Set<Integer> faults() {
            Set<Integer> faults = missing();
            frames.stream().filter(frame -> frame.splice).forEach(frame -> faults.add(frame.code));
            return faults;
        }
    }

    static final class Version {
        int land;
        int year;
        int proofs;
        final List<int[]> shots = new ArrayList<>();
        final List<int[]> rights = new ArrayList<>();
        final Set<Integer> allowing = new TreeSet<>();

        List<Integer> codes() {
            List<Integer> codes = new ArrayList<>();
            for (int[] shot : shots) {
                for (int code = shot[0]; code <= shot[1]; code++) {
                    codes.add(code);
                }
            }
            return codes;
        }
    }

    static final class Taken {
        int code;
        int reel = -1;
        int place = -1;
        int[] was = new int[8];
        int[] now = new int[8];
        boolean isProtected;

        boolean out() {
            return isProtected || reel < 0;
        }
    }

    static final class Change {
        int place;
        Map<Integer, Integer> old = new HashMap<>();
        boolean back;
    }

    private final List<Reel> reels = new ArrayList<>();
    private final List<Version> versions = new ArrayList<>();
    private final List<int[]> scraps = new ArrayList<>();
    private List<Taken> edition = new ArrayList<>();
    private List<Change> changes = new ArrayList<>();
    private int year = 2000;
    private int tolerance = 40;
    private int limit = 4;

    private static void index(boolean there) {
        if (!there) {
            throw new IndexOutOfBoundsException();
        }
    }

    private static void range(boolean inside) {
        if (!inside) {
            throw new IllegalArgumentException();
        }
    }

    private static void state(boolean fits) {
        if (!fits) {
            throw new IllegalStateException();
        }
    }

    private static boolean in(long value, long least, long most) {
        return least <= value && value <= most;
    }

    private static <T> T get(List<T> list, int at) {
        index(at >= 0 && at < list.size());
        return list.get(at);
    }

    static int[] points(long frame) {
        byte[] bytes = java.nio.ByteBuffer.allocate(8).order(java.nio.ByteOrder.LITTLE_ENDIAN).putLong(frame).array();
        int[] points = new int[8];
        for (int k = 0; k < 8; k++) {
            points[k] = Byte.toUnsignedInt(bytes[k]);
        }
        return points;
    }

    static long asLong(int[] points) {
        long frame = 0;
        for (int k = 0; k < 8; k++) {
            frame += (long) points[k] << 8 * k;
        }
        return frame;
    }

    private static int distance(int[] one, int[] other) {
        int distance = 0;
        for (int k = 0; k < 8; k++) {
            distance += Math.max(one[k], other[k]) - Math.min(one[k], other[k]);
        }
        return distance;
    }

    long reel(int base, int made, int land, int parent, int decay) {
        int generation = parent == -1 ? 0 : get(reels, parent).generation + 1;
        range(in(base, 0, 1) && in(made, 1890, 2000) && in(land, 0, 3) && in(decay, 0, 299));
        state(reels.size() < 12);
        Reel reel = new Reel();
        reel.base = base;
        reel.year = made;
        reel.generation = generation;
        reel.decay = decay;
        reels.add(reel);
        return reels.size() - 1;
    }

    long frame(int reel, int code, int first, int last) {
        List<Frame> frames = get(reels, reel).frames;
        range(in(code, 0, 999));
        state(frames.size() < 60);
        Frame frame = new Frame();
        frame.code = code;
        frame.points = points(Integer.toUnsignedLong(first) + (Integer.toUnsignedLong(last) << 32));
        frames.add(frame);
        return frames.size();
    }

    long splice(int reel, int place) {
        List<Frame> frames = get(reels, reel).frames;
        get(frames, place).splice = true;
        return frames.stream().filter(frame -> frame.splice).count();
    }

    long cold(int reel, boolean cold) {
        Reel kept = get(reels, reel);
        kept.cold = cold;
        int then = year;
        for (int decay = kept.decay; decay < 200; decay += kept.rate()) {
            then++;
        }
        return then;
    }

    long copy(int reel) {
        Reel original = get(reels, reel);
        state(original.readable() && reels.size() < 12);
        Reel copy = new Reel();
        copy.base = 1;
        copy.year = year;
        copy.generation = original.generation + 1;
        for (Frame frame : original.frames) {
            Frame printed = new Frame();
            printed.code = frame.code;
            printed.points = frame.points;
            printed.splice = frame.splice;
            copy.frames.add(printed);
        }
        reels.add(copy);
        return reels.size() - 1;
    }

    long ofReel(int reel, int what) {
        Reel told = get(reels, reel);
        range(in(what, 0, 8));
        int jumps = 0;
        for (int i = 1; i < told.frames.size(); i++) {
            jumps += told.frames.get(i).code - told.frames.get(i - 1).code == 1 ? 0 : 1;
        }
        int[] answers = {told.frames.size(), told.generation, told.decay, told.readable() ? 1 : 0, jumps,
            told.missing().size(), told.faults().size(), parentOf(reel), told.year};
        return answers[what];
    }

    private int parentOf(int reel) {
        Reel child = reels.get(reel);
        int parent = -1;
        for (int i = reels.size() - 1; i >= 0; i--) {
            Reel other = reels.get(i);
            boolean earlier = other.year < child.year || other.year == child.year && i < reel;
            if (i != reel && earlier && child.faults().containsAll(other.faults())
                    && (parent < 0 || other.faults().size() >= reels.get(parent).faults().size())) {
                parent = i;
            }
        }
        return parent;
    }

    long tolerance(int wanted) {
        range(in(wanted, 0, 2040));
        int before = tolerance;
        tolerance = wanted;
        return before;
    }

    long align(int reel, int other) {
        List<Frame> first = get(reels, reel).frames;
        List<Frame> second = get(reels, other).frames;
        state(reels.get(reel).readable() && reels.get(other).readable());
        return most(first, second, first.size(), second.size(), new HashMap<>());
    }

    private int most(List<Frame> first, List<Frame> second, int i, int j, Map<Integer, Integer> known) {
        if (i == 0 || j == 0) {
            return 0;
        }
        Integer before = known.get(i * 100 + j);
        if (before != null) {
            return before;
        }
        int most = Math.max(most(first, second, i - 1, j, known), most(first, second, i, j - 1, known));
        if (distance(first.get(i - 1).points, second.get(j - 1).points) <= tolerance) {
            most = Math.max(most, 1 + most(first, second, i - 1, j - 1, known));
        }
        known.put(i * 100 + j, most);
        return most;
    }

    long pairOf(int reel, int place, int other) {
        List<Frame> first = get(reels, reel).frames;
        List<Frame> second = get(reels, other).frames;
        get(first, place);
        state(reels.get(reel).readable() && reels.get(other).readable());
        Map<Integer, Integer> known = new HashMap<>();
        int i = first.size();
        int j = second.size();
        while (i > 0 && j > 0) {
            int most = most(first, second, i, j, known);
            if (distance(first.get(i - 1).points, second.get(j - 1).points) <= tolerance
                    && 1 + most(first, second, i - 1, j - 1, known) == most) {
                if (i - 1 == place) {
                    return j - 1;
                }
                i--;
                j--;
            } else if (most(first, second, i - 1, j, known) == most) {
                i--;
            } else {
                j--;
            }
        }
        return -1;
    }

    long alike(int reel, int place, int other, int there) {
        get(reels, reel);
        get(reels, other);
        int[] one = get(reels.get(reel).frames, place).points;
        int[] two = get(reels.get(other).frames, there).points;
        float distance = distance(one, two);
        return Float.floatToIntBits(1.0f - distance / 2040.0f);
    }

    long version(int land, int made) {
        range(in(land, 0, 3) && in(made, 1890, 2100));
        state(versions.size() < 6);
        Version version = new Version();
        version.land = land;
        version.year = made;
        versions.add(version);
        return versions.size() - 1;
    }

    long shot(int version, int from, int to) {
        Version longer = get(versions, version);
        range(in(from, 0, 999) && in(to, from, 999));
        state(longer.shots.size() < 10 && longer.codes().size() + (to - from + 1) <= 120);
        longer.shots.add(new int[] {from, to, 16});
        return longer.codes().size();
    }

    long proof(int version) {
        return ++get(versions, version).proofs;
    }

    long speed(int version, int shot, int speed) {
        int[] run = get(get(versions, version).shots, shot);
        range(in(speed, 8, 30));
        int before = run[2];
        run[2] = speed;
        return before;
    }

    long ofVersion(int version, int what) {
        Version told = get(versions, version);
        range(in(what, 0, 5));
        int duration = 0;
        for (int[] shot : told.shots) {
            duration += (shot[1] - shot[0] + 1) * 1000 / shot[2];
        }
        Set<Integer> readable = new TreeSet<>();
        reels.stream().filter(Reel::readable).forEach(reel -> readable.addAll(reel.codes()));
        long had = told.codes().stream().filter(readable::contains).count();
        long[] answers = {told.codes().size(), had, told.proofs > 1 ? 2 : told.proofs, duration, told.land, told.year};
        return answers[what];
    }

    long scrap(int code, int tint) {
        range(in(code, 0, 999) && in(tint, 0, 9));
        state(scraps.size() < 100);
        scraps.add(new int[] {code, tint});
        return scraps.stream().filter(scrap -> scrap[0] == code).count();
    }

    long tint(int version, int shot) {
        int[] tinted = get(get(versions, version).shots, shot);
        long most = 0;
        int best = -1;
        for (int tint = 9; tint >= 0; tint--) {
            int wanted = tint;
            long many = scraps.stream().filter(s -> s[1] == wanted && in(s[0], tinted[0], tinted[1])).count();
            if (many > 0 && many >= most) {
                most = many;
                best = tint;
            }
        }
        return best;
    }

    long right(int version, int holder, int land, int from, int to) {
        Version owned = get(versions, version);
        index(in(holder, 0, 9));
        range(in(land, 0, 3) && in(from, 1890, 2200) && in(to, from, 2200));
        state(versions.stream().mapToInt(other -> other.rights.size()).sum() < 40);
        owned.rights.add(new int[] {holder, land, from, to});
        return owned.rights.size();
    }

    long allow(int version, int holder, boolean allows) {
        Version owned = get(versions, version);
        index(in(holder, 0, 9));
        boolean before = owned.allowing.contains(holder);
        owned.allowing.remove(holder);
        if (allows) {
            owned.allowing.add(holder);
        }
        return before ? 1 : 0;
    }

    long mayShow(int version, int land, int then) {
        Version shown = get(versions, version);
        range(in(land, 0, 3) && in(then, 1890, 2200));
        return shown.rights.stream().filter(right -> right[1] == land && in(then, right[2], right[3]))
            .allMatch(right -> shown.allowing.contains(right[0])) ? 1 : 0;
    }

    long edition(int version) {
        Version made = get(versions, version);
        edition = new ArrayList<>();
        changes = new ArrayList<>();
        for (int code : made.codes()) {
            Taken taken = new Taken();
            taken.code = code;
            int[] best = null;
            for (int i = 0; i < reels.size(); i++) {
                Reel reel = reels.get(i);
                int[] rank = {reel.decay, reel.generation, i};
                if (reel.readable() && reel.codes().contains(code)
                        && (best == null || java.util.Arrays.compare(rank, best) < 0)) {
                    best = rank;
                }
            }
            if (best != null) {
                taken.reel = best[2];
                List<Frame> frames = reels.get(best[2]).frames;
                taken.place = 0;
                while (frames.get(taken.place).code != code) {
                    taken.place++;
                }
                taken.was = frames.get(taken.place).points.clone();
                taken.now = taken.was.clone();
            }
            edition.add(taken);
        }
        return edition.stream().filter(taken -> taken.reel < 0).count();
    }

    long protect(int place, boolean protects) {
        Taken taken = get(edition, place);
        boolean before = taken.isProtected;
        taken.isProtected = protects;
        return before ? 1 : 0;
    }

    long limit(int wanted) {
        range(in(wanted, 0, 8));
        int before = limit;
        limit = wanted;
        return before;
    }

    private int mend(List<int[]> wanted) {
        int made = 0;
        for (int i = 0; i < edition.size(); i++) {
            Taken taken = edition.get(i);
            int[] next = wanted.get(i);
            int unlike = 0;
            Change change = new Change();
            change.place = i;
            for (int k = 0; k < 8; k++) {
                unlike += next[k] == taken.was[k] ? 0 : 1;
                if (next[k] != taken.now[k]) {
                    change.old.put(k, taken.now[k]);
                }
            }
            if (!change.old.isEmpty() && unlike <= limit) {
                changes.add(change);
                taken.now = next.clone();
                made++;
            }
        }
        return made;
    }

    private List<int[]> asTheyAre() {
        List<int[]> now = new ArrayList<>();
        edition.forEach(taken -> now.add(taken.now.clone()));
        return now;
    }

    private boolean lonely(int i) {
        return i == 0 || i + 1 == edition.size() || edition.get(i - 1).out() || edition.get(i).out()
            || edition.get(i + 1).out();
    }

    long dirt(int threshold) {
        range(in(threshold, 0, 255));
        List<int[]> wanted = asTheyAre();
        for (int i = 0; i < edition.size(); i++) {
            for (int k = 0; k < 8 && !lonely(i); k++) {
                int ahead = edition.get(i - 1).now[k];
                int here = edition.get(i).now[k];
                int behind = edition.get(i + 1).now[k];
                if (!in(here, ahead - threshold, ahead + threshold) && !in(here, behind - threshold, behind + threshold)
                        && in(ahead, behind - threshold, behind + threshold)) {
                    wanted.get(i)[k] = (ahead + behind) / 2;
                }
            }
        }
        return mend(wanted);
    }

    long scratch(int point, int from, int to, int threshold) {
        get(edition, from);
        get(edition, to);
        range(in(point, 1, 6) && in(threshold, 0, 255) && to >= from);
        List<int[]> wanted = asTheyAre();
        for (int i = from; i <= to; i++) {
            int[] now = edition.get(i).now;
            if (edition.get(i).out()) {
                continue;
            }
            if (now[point] <= now[point - 1] + threshold || now[point] <= now[point + 1] + threshold) {
                return 0;
            }
            wanted.get(i)[point] = (now[point - 1] + now[point + 1]) / 2;
        }
        return mend(wanted);
    }

    long flicker() {
        List<int[]> wanted = asTheyAre();
        for (int i = 0; i < edition.size(); i++) {
            if (lonely(i)) {
                continue;
            }
            int more = (total(i - 1) + total(i + 1)) / 2 - total(i);
            int each = more < 0 ? -(-more / 8) : more / 8;
            for (int k = 0; k < 8; k++) {
                int point = edition.get(i).now[k] + each;
                wanted.get(i)[k] = point < 0 ? 0 : point > 255 ? 255 : point;
            }
        }
        return mend(wanted);
    }

    private int total(int place) {
        return java.util.Arrays.stream(edition.get(place).now).sum();
    }

    long takeBack(int number) {
        Change change = get(changes, number);
        state(!change.back);
        for (Change later : changes.subList(number + 1, changes.size())) {
            state(later.back || later.place != change.place);
        }
        change.back = true;
        change.old.forEach((point, value) -> edition.get(change.place).now[point] = value);
        return change.place;
    }

    long ofFrame(int place, int what) {
        Taken told = get(edition, place);
        range(in(what, 0, 4));
        int unlike = 0;
        for (int k = 0; k < 8; k++) {
            unlike += told.now[k] != told.was[k] ? 1 : 0;
        }
        long in = changes.stream().filter(change -> !change.back && change.place == place).count();
        long[] answers = {told.code, told.reel, told.place, unlike, in};
        return answers[what];
    }

    long seen(int place) {
        return asLong(get(edition, place).now);
    }

    long sum(boolean mended) {
        BigInteger sum = BigInteger.valueOf(1469598103934665603L);
        BigInteger whole = BigInteger.ONE.shiftLeft(64);
        for (Taken taken : edition) {
            BigInteger frame = BigInteger.valueOf(asLong(mended ? taken.now : taken.was)).mod(whole);
            sum = sum.xor(frame).multiply(BigInteger.valueOf(1099511628211L)).mod(whole);
        }
        return sum.longValue();
    }

    long pass(int years) {
        range(in(years, 1, 100));
        state(year + years <= 2200);
        for (int i = 0; i < years; i++) {
            year++;
            reels.forEach(reel -> reel.decay += reel.rate());
        }
        return year;
    }
}
