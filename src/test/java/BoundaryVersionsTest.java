/** The boundary cases of promises 12 to 21 and of the terms that they use, each alone. */
public final class BoundaryVersionsTest {
    private static final int NONE = Reelrescue.NONE;
    private static final int CODES = 0, READABLE = 1, CERTAINTY = 2, DURATION = 3, LAND = 4, YEAR = 5;

    private static final Cases cases = new Cases();

    public static void main(String[] args) {
        versionArguments();
        sixVersions();
        shotArguments();
        tenShots();
        codes120();
        proofs();
        speedArguments();
        durations();
        whats();
        readableCodes();
        scrapArguments();
        hundredScraps();
        tints();
        tintArguments();
        rightArguments();
        fortyRights();
        allowArguments();
        allowing();
        showArguments();
        showing();
        cases.end();
    }

    private static Cases.Use sixOfThem() {
        return x -> {
            for (int i = 0; i < 6; i++) {
                x.version(0, 1950);
            }
        };
    }

    private static void versionArguments() {
        cases.range("Promise 12, land: 0 to 3", 0, 3, Cases.OUT_OF_RANGE, World::standard, (x, land) -> x.version(land, 1950));
        cases.range("Promise 12, year: 1890 to 2100", 1890, 2100, Cases.OUT_OF_RANGE, World::standard,
            (x, year) -> x.version(0, year));
        cases.refuses("Promise 12: out of range goes ahead of 6 versions", Cases.OUT_OF_RANGE, sixOfThem(),
            x -> x.version(4, 1950));
        cases.refuses("Promise 12: out of range of year goes ahead of 6 versions", Cases.OUT_OF_RANGE, sixOfThem(),
            x -> x.version(0, 2101));
        cases.answers("Promise 12: the first land is kept", 0, x -> x.version(0, 1950), x -> x.ofVersion(0, LAND));
        cases.answers("Promise 12: the last land is kept", 3, x -> x.version(3, 1950), x -> x.ofVersion(0, LAND));
        cases.answers("Promise 12: the first year is kept", 1890, x -> x.version(0, 1890), x -> x.ofVersion(0, YEAR));
        cases.answers("Promise 12: the last year is kept", 2100, x -> x.version(0, 2100), x -> x.ofVersion(0, YEAR));
        cases.answers("Promise 12: without shots", 0, x -> x.version(0, 1950), x -> x.ofVersion(0, CODES));
        cases.refuses("Promise 12: without a first shot", Cases.NO_SUCH, x -> x.version(0, 1950), x -> x.tint(0, 0));
    }

    private static void sixVersions() {
        Cases.Use five = x -> {
            for (int i = 0; i < 5; i++) {
                x.version(0, 1950);
            }
        };
        cases.answers("Versions are numbered from 0", 0, World::empty, x -> x.version(0, 1950));
        cases.answers("Versions, at most 6: the sixth", 5, five, x -> x.version(0, 1950));
        cases.refuses("Promise 12: a seventh version", Cases.NOT_NOW, sixOfThem(), x -> x.version(0, 1950));
    }

    private static void shotArguments() {
        Cases.Use world = World::standard;
        cases.range("Promise 13, version: its number", 0, 1, Cases.NO_SUCH, world, (x, version) -> x.shot(version, 5, 5));
        cases.range("Promise 13, from: 0 to 999", 0, 999, Cases.OUT_OF_RANGE, world,
            (x, from) -> x.shot(1, from, Math.max(0, Math.min(999, from))));
        cases.range("Promise 13, to: from to 999", 990, 999, Cases.OUT_OF_RANGE, world, (x, to) -> x.shot(1, 990, to));
        cases.range("Promise 13, to: from to 999, from being 999", 999, 999, Cases.OUT_OF_RANGE, world,
            (x, to) -> x.shot(1, 999, to));
        cases.refuses("Promise 13, from: 1000, as to", Cases.OUT_OF_RANGE, world, x -> x.shot(1, 1000, 1000));
        cases.refuses("Promise 13, from: -1, as to", Cases.OUT_OF_RANGE, world, x -> x.shot(1, -1, -1));
        cases.refuses("Promise 13: all ints", Cases.OUT_OF_RANGE, world,
            x -> x.shot(1, Integer.MIN_VALUE, Integer.MAX_VALUE));
        cases.refuses("Promise 13: no version at all", Cases.NO_SUCH, World::empty, x -> x.shot(0, 0, 0));
        cases.refuses("Promise 13: no version goes ahead of out of range", Cases.NO_SUCH, world, x -> x.shot(2, 5, 4));
        cases.takes("Promise 13: the sixth version", sixOfThem(), x -> x.shot(5, 0, 0));
    }

    private static int[] ends(int shots) {
        int[] ends = new int[2 * shots];
        for (int i = 0; i < ends.length; i++) {
            ends[i] = i / 2;
        }
        return ends;
    }

    private static void tenShots() {
        cases.answers("Shots, at most 10: the tenth", 10, World.versionOf(ends(9)), x -> x.shot(0, 9, 9));
        cases.refuses("Promise 13: an eleventh shot", Cases.NOT_NOW, World.versionOf(ends(10)), x -> x.shot(0, 10, 10));
        cases.refuses("Promise 13: out of range goes ahead of 10 shots", Cases.OUT_OF_RANGE, World.versionOf(ends(10)),
            x -> x.shot(0, 10, 9));
        cases.answers("Shots, at most 10: of each version", 1, World.then(World.versionOf(ends(10)),
            x -> x.version(0, 1950)), x -> x.shot(1, 0, 0));
        cases.answers("Promise 13, how many codes: of one code", 1, World.versionOf(), x -> x.shot(0, 999, 999));
        cases.answers("Promise 13, how many codes: they count as often as they stand", 4, World.versionOf(5, 6),
            x -> x.shot(0, 5, 6));
    }

    private static void codes120() {
        cases.answers("Promise 13: 120 codes in one shot", 120, World.versionOf(), x -> x.shot(0, 880, 999));
        cases.answers("Promise 13: 120 codes in two shots", 120, World.versionOf(0, 118), x -> x.shot(0, 0, 0));
        cases.refuses("Promise 13: 121 codes in one shot", Cases.NOT_NOW, World.versionOf(), x -> x.shot(0, 879, 999));
        cases.refuses("Promise 13: 121 codes in two shots", Cases.NOT_NOW, World.versionOf(0, 118), x -> x.shot(0, 0, 1));
        cases.refuses("Promise 13: 1 code more than 120", Cases.NOT_NOW, World.versionOf(0, 119), x -> x.shot(0, 0, 0));
        cases.refuses("Promise 13: all codes", Cases.NOT_NOW, World.versionOf(), x -> x.shot(0, 0, 999));
        cases.refuses("Promise 13: out of range goes ahead of 120 codes", Cases.OUT_OF_RANGE, World.versionOf(0, 119),
            x -> x.shot(0, 0, 1000));
        cases.answers("Promise 13: 120 codes of each version", 120, World.then(World.versionOf(0, 119),
            x -> x.version(0, 1950)), x -> x.shot(1, 0, 119));
        cases.answers("Promise 16, its codes: 120", 120, World.versionOf(0, 119), x -> x.ofVersion(0, CODES));
    }

    private static Cases.Use proved(int proofs) {
        return x -> {
            x.version(0, 1950);
            for (int i = 0; i < proofs; i++) {
                x.proof(0);
            }
        };
    }

    private static void proofs() {
        cases.range("Promise 14, version: its number", 0, 1, Cases.NO_SUCH, World::standard, (x, version) -> x.proof(version));
        cases.refuses("Promise 14: no version at all", Cases.NO_SUCH, World::empty, x -> x.proof(0));
        cases.answers("Promise 14, how many there are: the first", 1, proved(0), x -> x.proof(0));
        cases.answers("Promise 14, how many there are: of each version", 1, World.then(proved(2),
            x -> x.version(0, 1950)), x -> x.proof(1));
        cases.answers("Promise 14, how many there are: no end is told", 500, proved(499), x -> x.proof(0));
        cases.answers("Certain: guessed without proofs", 0, proved(0), x -> x.ofVersion(0, CERTAINTY));
        cases.answers("Certain: likely with one", 1, proved(1), x -> x.ofVersion(0, CERTAINTY));
        cases.answers("Certain: with two", 2, proved(2), x -> x.ofVersion(0, CERTAINTY));
        cases.answers("Certain: with three", 2, proved(3), x -> x.ofVersion(0, CERTAINTY));
    }

    private static void speedArguments() {
        Cases.Use world = World::standard;
        cases.range("Promise 15, version: its number", 0, 0, Cases.NO_SUCH, World.versionOf(1, 2),
            (x, version) -> x.speed(version, 0, 16));
        cases.range("Promise 15, shot: 0 for the first one", 0, 2, Cases.NO_SUCH, world, (x, shot) -> x.speed(0, shot, 16));
        cases.range("Promise 15, shot: the last of 10", 0, 9, Cases.NO_SUCH, World.versionOf(ends(10)),
            (x, shot) -> x.speed(0, shot, 16));
        cases.range("Promise 15, speed: 8 to 30", 8, 30, Cases.OUT_OF_RANGE, world, (x, speed) -> x.speed(0, 1, speed));
        cases.refuses("Promise 15, speed: 0", Cases.OUT_OF_RANGE, world, x -> x.speed(0, 1, 0));
        cases.refuses("Promise 15: a version without shots", Cases.NO_SUCH, world, x -> x.speed(1, 0, 16));
        cases.refuses("Promise 15: no version goes ahead of out of range", Cases.NO_SUCH, world, x -> x.speed(2, 0, 7));
        cases.refuses("Promise 15: no shot goes ahead of out of range", Cases.NO_SUCH, world, x -> x.speed(0, 3, 31));
        cases.answers("Promise 15, the speed before: 16 at first", 16, World.versionOf(1, 1), x -> x.speed(0, 0, 30));
        cases.answers("Promise 15, the speed before: the least one", 8, World.then(World.versionOf(1, 1),
            x -> x.speed(0, 0, 8)), x -> x.speed(0, 0, 9));
        cases.answers("Promise 15, the speed before: the greatest one", 30, World.then(World.versionOf(1, 1),
            x -> x.speed(0, 0, 30)), x -> x.speed(0, 0, 9));
        cases.answers("Promise 15, the speed before: of each shot", 16, World.then(World.versionOf(1, 1, 2, 2),
            x -> x.speed(0, 0, 30)), x -> x.speed(0, 1, 9));
    }

    private static void lasts(String name, int due, int speed, int... ends) {
        cases.answers("How long it lasts: " + name, due, World.then(World.versionOf(ends), x -> {
            for (int shot = 0; 2 * shot < ends.length; shot++) {
                x.speed(0, shot, speed);
            }
        }), x -> x.ofVersion(0, DURATION));
    }

    private static void durations() {
        lasts("without shots", 0, 16);
        lasts("62.5 is rounded down", 62, 16, 0, 0);
        lasts("each shot is rounded down by itself", 124, 16, 0, 0, 1, 1);
        lasts("two codes of one shot are rounded down together", 125, 16, 0, 1);
        lasts("the least speed", 125, 8, 0, 0);
        lasts("the greatest speed, 33.3 rounded down", 33, 30, 0, 0);
        lasts("66.7 is rounded down", 66, 30, 0, 1);
        lasts("all of 10 shots", 10 * 41, 24, ends(10));
        lasts("120 codes at the least speed", 15000, 8, 0, 119);
        lasts("120 codes at the greatest speed", 4000, 30, 0, 119);
        cases.answers("How long it lasts: 16 frames per second at first", 1000, World.versionOf(0, 15),
            x -> x.ofVersion(0, DURATION));
    }

    private static void whats() {
        cases.range("Promise 16, what: 0 to 5", 0, 5, Cases.OUT_OF_RANGE, World::standard, (x, what) -> x.ofVersion(0, what));
        cases.range("Promise 16, version: its number", 0, 1, Cases.NO_SUCH, World::standard,
            (x, version) -> x.ofVersion(version, 0));
        cases.refuses("Promise 16: no version at all", Cases.NO_SUCH, World::empty, x -> x.ofVersion(0, 0));
        cases.refuses("Promise 16: no version goes ahead of out of range", Cases.NO_SUCH, World::standard,
            x -> x.ofVersion(2, 6));
        for (int what = 0; what <= 5; what++) {
            int asked = what;
            cases.refuses("Promise 16, no version: what " + what, Cases.NO_SUCH, World::standard,
                x -> x.ofVersion(2, asked));
        }
    }

    private static void had(String name, int due, Cases.Use reels, int... ends) {
        cases.answers("How many codes some reel has: " + name, due, World.then(World.versionOf(ends), reels),
            x -> x.ofVersion(0, READABLE));
    }

    private static void readableCodes() {
        had("no reel", 0, World::empty, 0, 9);
        had("no shot", 0, x -> World.reel(x, 0, 1, 2));
        had("the first and the last code", 2, x -> World.reel(x, 0, 5, 9), 5, 9);
        had("codes beside the shot", 0, x -> World.reel(x, 0, 4, 10), 5, 9);
        had("codes 0 and 999", 2, x -> World.reel(x, 0, 0, 999), 0, 0, 999, 999);
        had("a code counts as often as it stands in shots", 3, x -> World.reel(x, 0, 5), 5, 5, 5, 5, 5, 5);
        had("not as often as it stands in a reel", 1, x -> World.reel(x, 0, 5, 5, 5), 5, 5);
        had("not as often as it stands in reels", 1, x -> {
            World.reel(x, 0, 5);
            World.reel(x, 0, 5);
        }, 5, 5);
        had("a decay of 299 can be read", 1, x -> World.reel(x, 299, 5), 5, 5);
        had("a decay of 300 cannot be read", 0, x -> {
            World.reel(x, 299, 5);
            x.cold(0, true);
            x.pass(1);
        }, 5, 5);
        had("some reel has it, but not the first", 1, x -> {
            World.reel(x, 0);
            World.reel(x, 0, 5);
        }, 5, 5);
        had("all 60 of a reel", 60, World.codesFrom0(60), 0, 119);
    }

    private static Cases.Use scraps(int many, int code, int tint) {
        return x -> {
            for (int i = 0; i < many; i++) {
                x.scrap(code, tint);
            }
        };
    }

    private static void scrapArguments() {
        cases.range("Promise 17, code: 0 to 999", 0, 999, Cases.OUT_OF_RANGE, World::standard, (x, code) -> x.scrap(code, 0));
        cases.range("Promise 17, tint: 0 to 9", 0, 9, Cases.OUT_OF_RANGE, World::standard, (x, tint) -> x.scrap(0, tint));
        cases.answers("Promise 17, how many of this code: the first", 1, World::empty, x -> x.scrap(0, 0));
        cases.answers("Promise 17, how many of this code: of code 999", 2, scraps(1, 999, 0), x -> x.scrap(999, 9));
        cases.answers("Promise 17, how many of this code: not those beside it", 1, World.then(scraps(3, 4, 0),
            scraps(3, 6, 0)), x -> x.scrap(5, 0));
        cases.answers("Promise 17, how many of this code: of all tints", 4, World.then(scraps(1, 5, 0), World.then(
            scraps(1, 5, 1), scraps(1, 5, 9))), x -> x.scrap(5, 5));
    }

    private static void hundredScraps() {
        cases.answers("Promise 17: the hundredth scrap", 100, scraps(99, 5, 0), x -> x.scrap(5, 0));
        cases.answers("Promise 17: the hundredth scrap of another code", 1, scraps(99, 5, 0), x -> x.scrap(6, 0));
        cases.refuses("Promise 17: scrap 101", Cases.NOT_NOW, scraps(100, 5, 0), x -> x.scrap(5, 0));
        cases.refuses("Promise 17: scrap 101 of another code", Cases.NOT_NOW, scraps(100, 5, 0), x -> x.scrap(6, 0));
        cases.refuses("Promise 17: code out of range goes ahead of 100 scraps", Cases.OUT_OF_RANGE, scraps(100, 5, 0),
            x -> x.scrap(1000, 0));
        cases.refuses("Promise 17: tint out of range goes ahead of 100 scraps", Cases.OUT_OF_RANGE, scraps(100, 5, 0),
            x -> x.scrap(5, 10));
        cases.refuses("Promise 17: out of range with 99 scraps", Cases.OUT_OF_RANGE, scraps(99, 5, 0),
            x -> x.scrap(1000, 0));
        cases.answers("Colour: the hundredth scrap counts", 7, World.then(World.versionOf(6, 6), World.then(
            scraps(99, 5, 0), scraps(1, 6, 7))), x -> x.tint(0, 0));
    }

    private static void tinted(String name, int due, int... codesAndTints) {
        cases.answers("Colour, the tint of a shot: " + name, due, World.then(World.versionOf(10, 12), x -> {
            for (int i = 0; i < codesAndTints.length; i += 2) {
                x.scrap(codesAndTints[i], codesAndTints[i + 1]);
            }
        }), x -> x.tint(0, 0));
    }

    private static void tints() {
        tinted("NONE without scraps", NONE);
        tinted("of its first code", 3, 10, 3);
        tinted("of its last code", 3, 12, 3);
        tinted("not of the code ahead of it", NONE, 9, 3);
        tinted("not of the code behind it", NONE, 13, 3);
        tinted("tint 0", 0, 11, 0);
        tinted("tint 9", 9, 11, 9);
        tinted("the most scraps, the highest tint", 9, 11, 0, 11, 9, 12, 9);
        tinted("the most scraps, the lowest tint", 0, 11, 9, 11, 0, 12, 0);
        tinted("of several the lowest", 4, 11, 9, 11, 4, 10, 5);
        tinted("of several the lowest, told of last", 0, 11, 9, 11, 0);
        tinted("codes beside it do not count", 2, 11, 2, 9, 1, 9, 1, 13, 1);
        cases.answers("Colour, the tint of a shot: of codes 0 and 999", 8, World.then(World.versionOf(999, 999),
            x -> x.scrap(999, 8)), x -> x.tint(0, 0));
        cases.answers("Colour, the tint of a shot: asked again, behind another shot", NONE, World.then(
            World.versionOf(1, 2, 3, 4), x -> {
                x.scrap(1, 8);
                x.tint(0, 0);
            }), x -> x.tint(0, 1));
        cases.answers("Colour, the tint of a shot: of that shot", NONE, World.then(World.versionOf(1, 2, 3, 4),
            x -> x.scrap(1, 8)), x -> x.tint(0, 1));
    }

    private static void tintArguments() {
        cases.range("Promise 18, version: its number", 0, 0, Cases.NO_SUCH, World.versionOf(1, 2),
            (x, version) -> x.tint(version, 0));
        cases.range("Promise 18, shot: 0 for the first one", 0, 2, Cases.NO_SUCH, World::standard, (x, shot) -> x.tint(0, shot));
        cases.range("Promise 18, shot: the last of 10", 0, 9, Cases.NO_SUCH, World.versionOf(ends(10)),
            (x, shot) -> x.tint(0, shot));
        cases.refuses("Promise 18: no version at all", Cases.NO_SUCH, World::empty, x -> x.tint(0, 0));
        cases.refuses("Promise 18: a version without shots", Cases.NO_SUCH, World::standard, x -> x.tint(1, 0));
    }

    private static void rightArguments() {
        Cases.Use world = World::standard;
        cases.range("Promise 19, version: its number", 0, 1, Cases.NO_SUCH, world,
            (x, version) -> x.right(version, 0, 0, 1950, 1960));
        cases.range("Promise 19, holder: 0 to 9", 0, 9, Cases.NO_SUCH, world,
            (x, holder) -> x.right(0, holder, 0, 1950, 1960));
        cases.range("Promise 19, land: 0 to 3", 0, 3, Cases.OUT_OF_RANGE, world,
            (x, land) -> x.right(0, 0, land, 1950, 1960));
        cases.range("Promise 19, from: 1890 to 2200", 1890, 2200, Cases.OUT_OF_RANGE, world,
            (x, from) -> x.right(0, 0, 0, from, 2200));
        cases.range("Promise 19, to: from to 2200", 1950, 2200, Cases.OUT_OF_RANGE, world,
            (x, to) -> x.right(0, 0, 0, 1950, to));
        cases.refuses("Promise 19, from: 2201, as to", Cases.OUT_OF_RANGE, world, x -> x.right(0, 0, 0, 2201, 2201));
        cases.refuses("Promise 19, from: 1889, as to", Cases.OUT_OF_RANGE, world, x -> x.right(0, 0, 0, 1889, 1889));
        cases.refuses("Promise 19: no version at all", Cases.NO_SUCH, World::empty, x -> x.right(0, 0, 0, 1950, 1950));
        cases.refuses("Promise 19: no version goes ahead of out of range", Cases.NO_SUCH, world,
            x -> x.right(2, 0, 4, 1950, 1949));
        cases.refuses("Promise 19: no holder goes ahead of out of range", Cases.NO_SUCH, world,
            x -> x.right(0, 10, 4, 1950, 1949));
        cases.answers("Promise 19, how many of the version: the first", 1, World.versionOf(),
            x -> x.right(0, 0, 0, 1950, 1950));
        cases.answers("Promise 19, how many of the version: the same again", 2, World.then(World.versionOf(),
            x -> x.right(0, 0, 0, 1950, 1950)), x -> x.right(0, 0, 0, 1950, 1950));
        cases.answers("Promise 19, how many of the version: not of another one", 1, World.then(World.versionOf(),
            x -> x.right(0, 0, 0, 1950, 1950)), x -> x.right(x.version(0, 1950), 0, 0, 1950, 1950));
    }

    /** Versions 0 and 1, of which version 0 has so many rights, the last one for land 3, all others for land 0. */
    private static Cases.Use rights(int many) {
        return x -> {
            x.version(0, 1950);
            x.version(0, 1950);
            for (int i = 0; i < many; i++) {
                x.right(0, 0, i == many - 1 ? 3 : 0, 1950, 1950);
            }
        };
    }

    private static void fortyRights() {
        cases.answers("Promise 19: the fortieth right", 40, rights(39), x -> x.right(0, 0, 0, 1950, 1950));
        cases.answers("Promise 19: the fortieth right, of another version", 1, rights(39),
            x -> x.right(1, 0, 0, 1950, 1950));
        cases.refuses("Promise 19: right 41", Cases.NOT_NOW, rights(40), x -> x.right(0, 0, 0, 1950, 1950));
        cases.refuses("Promise 19: there are 40, together", Cases.NOT_NOW, rights(40), x -> x.right(1, 0, 0, 1950, 1950));
        cases.refuses("Promise 19: no version goes ahead of 40 rights", Cases.NO_SUCH, rights(40),
            x -> x.right(2, 0, 0, 1950, 1950));
        cases.refuses("Promise 19: no holder goes ahead of 40 rights", Cases.NO_SUCH, rights(40),
            x -> x.right(0, 10, 0, 1950, 1950));
        cases.refuses("Promise 19: out of range goes ahead of 40 rights", Cases.OUT_OF_RANGE, rights(40),
            x -> x.right(0, 0, 0, 1950, 1949));
        cases.refuses("Promise 19: out of range with 39 rights", Cases.OUT_OF_RANGE, rights(39),
            x -> x.right(0, 0, 4, 1950, 1950));
        cases.holds("Rights: the fortieth one holds", false, World.then(rights(39), x -> x.right(0, 0, 1, 1950, 1950)),
            x -> x.mayShow(0, 1, 1950));
        cases.holds("Rights: 40 of one version, none of them there", true, rights(40), x -> x.mayShow(0, 1, 1950));
        cases.holds("Rights: 40 of one version, none of them then", true, rights(40), x -> x.mayShow(0, 0, 1951));
    }

    private static void allowArguments() {
        cases.range("Promise 20, version: its number", 0, 1, Cases.NO_SUCH, World::standard,
            (x, version) -> x.allow(version, 0, true));
        cases.range("Promise 20, holder: 0 to 9", 0, 9, Cases.NO_SUCH, World::standard,
            (x, holder) -> x.allow(0, holder, true));
        cases.range("Promise 20, holder: 0 to 9, not any more", 0, 9, Cases.NO_SUCH, World::standard,
            (x, holder) -> x.allow(0, holder, false));
        cases.refuses("Promise 20: no version at all", Cases.NO_SUCH, World::empty, x -> x.allow(0, 0, true));
        cases.refuses("Promise 20: neither version nor holder", Cases.NO_SUCH, World::standard, x -> x.allow(2, 10, true));
    }

    private static void allowing() {
        Cases.Use allowed = World.then(World.versionOf(), x -> x.allow(0, 9, true));
        cases.holds("Promise 20, whether it was: at first", false, World.versionOf(), x -> x.allow(0, 0, true));
        cases.holds("Promise 20, whether it was: at first, not allowing", false, World.versionOf(), x -> x.allow(0, 9, false));
        cases.holds("Promise 20, whether it was: allowed again", true, allowed, x -> x.allow(0, 9, true));
        cases.holds("Promise 20, whether it was: not any more", true, allowed, x -> x.allow(0, 9, false));
        cases.holds("Promise 20, whether it was: not any more, again", false, World.then(allowed,
            x -> x.allow(0, 9, false)), x -> x.allow(0, 9, false));
        cases.holds("Promise 20, whether it was: another holder", false, allowed, x -> x.allow(0, 8, true));
        cases.holds("Promise 20, whether it was: another version", false, World.then(allowed, x -> x.version(0, 1950)),
            x -> x.allow(1, 9, true));
    }

    private static void showArguments() {
        cases.range("Promise 21, version: its number", 0, 1, Cases.NO_SUCH, World::standard,
            (x, version) -> x.mayShow(version, 0, 1950));
        cases.range("Promise 21, land: 0 to 3", 0, 3, Cases.OUT_OF_RANGE, World::standard,
            (x, land) -> x.mayShow(0, land, 1950));
        cases.range("Promise 21, year: 1890 to 2200", 1890, 2200, Cases.OUT_OF_RANGE, World::standard,
            (x, year) -> x.mayShow(0, 0, year));
        cases.refuses("Promise 21: no version at all", Cases.NO_SUCH, World::empty, x -> x.mayShow(0, 0, 1950));
        cases.refuses("Promise 21: no version goes ahead of out of range", Cases.NO_SUCH, World::standard,
            x -> x.mayShow(2, 4, 2201));
    }

    private static void shown(String name, boolean due, int land, int year, Cases.Use world) {
        cases.holds("Rights, may be shown: " + name, due, World.then(World.versionOf(), world),
            x -> x.mayShow(0, land, year));
    }

    private static void showing() {
        Cases.Use one = x -> x.right(0, 9, 2, 1950, 1960);
        Cases.Use two = World.then(one, x -> x.right(0, 0, 2, 1960, 1970));
        shown("there is no right at all", true, 0, 1890, World::empty);
        shown("the year ahead of the first one", true, 2, 1949, one);
        shown("the first year", false, 2, 1950, one);
        shown("the last year", false, 2, 1960, one);
        shown("the year behind the last one", true, 2, 1961, one);
        shown("the land below", true, 1, 1955, one);
        shown("the land above", true, 3, 1955, one);
        shown("a right of one year, the year ahead", true, 0, 1999, x -> x.right(0, 0, 0, 2000, 2000));
        shown("a right of one year, that year", false, 0, 2000, x -> x.right(0, 0, 0, 2000, 2000));
        shown("a right of one year, the year behind", true, 0, 2001, x -> x.right(0, 0, 0, 2000, 2000));
        shown("a right from 1890 on", false, 3, 1890, x -> x.right(0, 0, 3, 1890, 1890));
        shown("a right up to 2200", false, 3, 2200, x -> x.right(0, 0, 3, 2200, 2200));
        shown("a right of another version", true, 0, 2000, x -> x.right(x.version(0, 1950), 0, 0, 1890, 2200));
        shown("the last holder has allowed it", true, 2, 1955, World.then(one, x -> x.allow(0, 9, true)));
        shown("another holder has allowed it", false, 2, 1955, World.then(one, x -> x.allow(0, 8, true)));
        shown("allowed for another version alone", false, 2, 1955, World.then(one,
            x -> x.allow(x.version(0, 1950), 9, true)));
        shown("not any more", false, 2, 1955, World.then(one, x -> {
            x.allow(0, 9, true);
            x.allow(0, 9, false);
        }));
        shown("allowed ahead of the right", true, 2, 1955, World.then(x -> x.allow(0, 9, true), one));
        shown("the first of two holders has not", false, 2, 1960, World.then(two, x -> x.allow(0, 0, true)));
        shown("the second of two holders has not", false, 2, 1960, World.then(two, x -> x.allow(0, 9, true)));
        shown("both holders have", true, 2, 1960, World.then(two, x -> {
            x.allow(0, 0, true);
            x.allow(0, 9, true);
        }));
        shown("one right is there, the other one is not then", true, 2, 1959, World.then(two, x -> x.allow(0, 9, true)));
        shown("in all lands", true, 3, 1955, x -> {
            x.right(0, 9, 3, 1950, 1960);
            x.right(0, 9, 2, 1950, 1960);
            x.allow(0, 9, true);
        });
    }
}
