import java.math.BigInteger;

/** The boundary cases of promises 22 to 24 and 29 to 31 and of the terms that they use, each alone. */
public final class BoundaryEditionTest {
    private static final int NONE = Reelrescue.NONE;
    private static final int NITRATE = Reelrescue.NITRATE;
    private static final int CODE = 0, REEL = 1, PLACE = 2, UNLIKE = 3, CHANGES = 4;
    private static final long START_SUM = 1469598103934665603L;
    private static final int[] SCRATCHED = World.but(World.flat(9), 3, 90);

    private static final Cases cases = new Cases();

    public static void main(String[] args) {
        editionArguments();
        editionSizes();
        leastDecay();
        lowestGeneration();
        firstFrame();
        readable();
        gaps();
        theLatest();
        protecting();
        limits();
        whats();
        unlikeAndChanges();
        seen();
        sums();
        cases.end();
    }

    private static void editionArguments() {
        cases.range("Promise 22, version: its number", 0, 1, Cases.NO_SUCH, World::standard, (x, version) -> x.edition(version));
        cases.range("Promise 22, version: the last of 6", 0, 5, Cases.NO_SUCH, x -> {
            for (int i = 0; i < 6; i++) {
                x.version(0, 1950);
            }
        }, (x, version) -> x.edition(version));
        cases.refuses("Promise 22: no version at all", Cases.NO_SUCH, World::empty, x -> x.edition(0));
    }

    private static void editionSizes() {
        Cases.Use full = World.then(World.codesFrom0(60), x -> {
            World.addVersion(x, 0, 59, 0, 59);
            x.edition(0);
        });
        cases.answers("Editions, no codes: no GAPs", 0, World.versionOf(), x -> x.edition(0));
        cases.refuses("Editions, no codes: no frame", Cases.NO_SUCH, World.then(World.versionOf(), x -> x.edition(0)),
            x -> x.seen(0));
        cases.answers("Editions, at most 120 in all: all of them GAPs", 120, World.versionOf(0, 119), x -> x.edition(0));
        cases.answers("Editions, at most 120 in all: the last one", 59, full, x -> x.ofFrame(119, CODE));
        cases.answers("Editions, at most 120 in all: its frame", 59, full, x -> x.seen(119));
        cases.refuses("Editions, at most 120 in all: none behind it", Cases.NO_SUCH, full, x -> x.seen(120));
        cases.answers("Editions, in their order: the first shot", 7, ordered(), x -> x.ofFrame(0, CODE));
        cases.answers("Editions, in their order: the last code of the first shot", 8, ordered(), x -> x.ofFrame(1, CODE));
        cases.answers("Editions, in their order: the second shot", 1, ordered(), x -> x.ofFrame(2, CODE));
        cases.answers("Editions: codes 0 and 999", 0, x -> {
            World.reel(x, 0, 0, 999);
            World.addVersion(x, 0, 0, 999, 999);
        }, x -> x.edition(0));
    }

    private static Cases.Use ordered() {
        return World.then(World.versionOf(7, 8, 1, 1), x -> x.edition(0));
    }

    /** Which reel the code 5 is taken from. */
    private static void taken(String name, int due, Cases.Use reels) {
        cases.answers("Editions, which reel: " + name, due, World.then(reels, x -> {
            World.addVersion(x, 5, 5);
            x.edition(0);
        }), x -> x.ofFrame(0, REEL));
    }

    private static Cases.Use decays(int... decays) {
        return x -> {
            for (int decay : decays) {
                World.reel(x, decay, 5);
            }
        };
    }

    private static void leastDecay() {
        taken("the only one", 0, decays(50));
        taken("1 decay less, the first one", 0, decays(49, 50));
        taken("1 decay less, the second one", 1, decays(50, 49));
        taken("1 decay less, of 3", 2, decays(50, 51, 49));
        taken("of several the lowest reel", 0, decays(50, 50, 50));
        taken("of several the lowest reel, behind one of more decay", 1, decays(51, 50, 50));
        taken("without decay", 1, decays(1, 0));
        taken("the twelfth", 11, decays(9, 9, 9, 9, 9, 9, 9, 9, 9, 9, 9, 8));
        taken("the least decay without the code", 1, x -> {
            World.reel(x, 0, 4, 6);
            World.reel(x, 50, 5);
        });
        taken("the decay of now", 1, x -> {
            World.reel(x, 50, 5);
            World.reelOf(x, Reelrescue.ACETATE, 1950, NONE, 51, 5);
            x.pass(2);
        });
    }

    private static void lowestGeneration() {
        taken("1 generation less", 1, x -> {
            World.reelOf(x, NITRATE, 1950, NONE, 10);
            World.reelOf(x, NITRATE, 1950, NONE, 5, 5);
            World.reelOf(x, NITRATE, 1950, 0, 5, 5);
        });
        taken("1 generation less, with a higher number", 2, x -> {
            World.reelOf(x, NITRATE, 1950, NONE, 10);
            World.reelOf(x, NITRATE, 1950, 0, 5, 5);
            World.reelOf(x, NITRATE, 1950, NONE, 5, 5);
        });
        taken("of one generation the lowest reel", 1, x -> {
            World.reelOf(x, NITRATE, 1950, NONE, 10);
            World.reelOf(x, NITRATE, 1950, 0, 5, 5);
            World.reelOf(x, NITRATE, 1950, 0, 5, 5);
        });
        taken("the least decay goes ahead of the lowest generation", 1, x -> {
            World.reelOf(x, NITRATE, 1950, NONE, 6, 5);
            World.reelOf(x, NITRATE, 1950, 0, 5, 5);
        });
        taken("a copy of one without decay", 0, x -> {
            World.reel(x, 0, 5);
            x.copy(0);
        });
    }

    private static void placed(String name, int due, int... codes) {
        cases.answers("Editions, which frame: " + name, due, x -> {
            World.reel(x, 0, codes);
            World.addVersion(x, 5, 5);
            x.edition(0);
        }, x -> x.ofFrame(0, PLACE));
    }

    private static void firstFrame() {
        placed("the only one", 0, 5);
        placed("the first with the code", 0, 5, 5);
        placed("the first with the code, behind others", 2, 4, 6, 5, 5);
        placed("the last of the reel", 3, 4, 6, 7, 5);
        cases.answers("Editions, which frame: the same one for each time that it stands", 1, x -> {
            World.reel(x, 0, 4, 5, 5);
            World.addVersion(x, 5, 5, 5, 5);
            x.edition(0);
        }, x -> x.ofFrame(1, PLACE));
        cases.answers("Editions, which frame: the sixtieth", 59, World.then(World.codesFrom0(60), x -> {
            World.addVersion(x, 59, 59);
            x.edition(0);
        }), x -> x.ofFrame(0, PLACE));
    }

    private static void readable() {
        Cases.Use at300 = x -> {
            World.reel(x, 299, 5);
            x.cold(0, true);
            x.pass(1);
        };
        taken("a decay of 299 can be read", 0, decays(299));
        taken("a decay of 300 cannot be read", NONE, at300);
        taken("one that can be read, behind one that cannot", 1, World.then(at300, x -> World.reel(x, 299, 5)));
        cases.answers("Promise 22, how many GAPs: of one that can be read", 0, World.then(decays(299),
            x -> World.addVersion(x, 5, 5)), x -> x.edition(0));
        cases.answers("Promise 22, how many GAPs: of one that cannot be read", 1, World.then(at300,
            x -> World.addVersion(x, 5, 5)), x -> x.edition(0));
    }

    private static void gaps() {
        Cases.Use gap = World.editionOf(World.GAP);
        cases.answers("GAPs: no reel has the code", NONE, gap, x -> x.ofFrame(0, REEL));
        cases.answers("GAPs: no place", NONE, gap, x -> x.ofFrame(0, PLACE));
        cases.answers("GAPs: the code", 5, World.then(World.versionOf(5, 5), x -> x.edition(0)), x -> x.ofFrame(0, CODE));
        cases.answers("GAPs: points 0", 0, gap, x -> x.seen(0));
        cases.answers("GAPs: none is unlike", 0, gap, x -> x.ofFrame(0, UNLIKE));
        cases.answers("GAPs: no changes", 0, gap, x -> x.ofFrame(0, CHANGES));
        cases.answers("GAPs: points 0, where there was a frame in the edition before", 0, World.then(
            World.editionOf(World.flat(77)), x -> {
                World.addVersion(x, 5, 5);
                x.edition(1);
            }), x -> x.seen(0));
        cases.answers("GAPs: a frame of points 0 is none", 0, World.editionOf(World.flat(0)), x -> x.ofFrame(0, REEL));
        cases.answers("Promise 22, how many GAPs: none", 0, World.editionOf(World.flat(0), World.flat(1)),
            x -> x.edition(0));
        cases.answers("Promise 22, how many GAPs: some", 1, World.editionOf(World.flat(0), World.GAP), x -> x.edition(0));
        cases.answers("Promise 22, how many GAPs: all", 2, World.editionOf(World.GAP, World.GAP), x -> x.edition(0));
        cases.answers("Promise 22, how many GAPs: one code as often as it stands", 3, World.versionOf(5, 5, 5, 5, 5, 5),
            x -> x.edition(0));
    }

    private static void theLatest() {
        Cases.Use scratched = World.then(World.editionOf(SCRATCHED, SCRATCHED), x -> x.scratch(3, 0, 1, 0));
        Cases.Use again = World.then(scratched, x -> x.edition(0));
        cases.answers("One edition, the latest: as it was taken", World.points(SCRATCHED), again, x -> x.seen(0));
        cases.answers("One edition, the latest: no changes", 0, again, x -> x.ofFrame(1, CHANGES));
        cases.refuses("Promise 28: a change of the edition before", Cases.NO_SUCH, again, x -> x.takeBack(0));
        cases.answers("Changes are numbered from 0 in each edition", 1, World.then(again, x -> x.scratch(3, 1, 1, 0)),
            x -> x.takeBack(0));
        cases.holds("One edition, the latest: not PROTECTED", false, World.then(scratched, x -> {
            x.protect(0, true);
            x.edition(0);
        }), x -> x.protect(0, true));
        cases.answers("One edition, the latest: the limit stays", 7, World.then(scratched, x -> {
            x.limit(7);
            x.edition(0);
        }), x -> x.limit(4));
        cases.refuses("One edition, the latest: it is shorter", Cases.NO_SUCH, World.then(scratched, x -> {
            World.addVersion(x, 0, 0);
            x.edition(1);
        }), x -> x.seen(1));
        cases.refuses("One edition, the latest: it is empty", Cases.NO_SUCH, World.then(scratched, x -> {
            World.addVersion(x);
            x.edition(1);
        }), x -> x.ofFrame(0, CODE));
        cases.answers("One edition: a later reel does not change it", 0, World.then(World.editionOf(SCRATCHED), x -> {
            World.reel(x, 0, 0);
            x.pass(1);
            World.reel(x, 0, 0);
        }), x -> x.ofFrame(0, REEL));
        cases.answers("One edition: it stays when its reel cannot be read any more", World.points(SCRATCHED), World.then(
            World.editionOf(SCRATCHED), x -> {
                x.pass(100);
                x.pass(100);
            }), x -> x.seen(0));
        cases.refuses("One edition: a later shot does not change it", Cases.NO_SUCH, World.then(
            World.editionOf(SCRATCHED), x -> x.shot(0, 0, 0)), x -> x.seen(1));
    }

    private static void protecting() {
        cases.range("Promise 23, place: that of the frame", 0, 5, Cases.NO_SUCH, World::standard,
            (x, place) -> x.protect(place, true));
        cases.range("Promise 23, place: not any more", 0, 5, Cases.NO_SUCH, World::standard,
            (x, place) -> x.protect(place, false));
        cases.range("Promise 23, place: that of 120 frames", 0, 119, Cases.NO_SUCH, World.then(World.versionOf(0, 119),
            x -> x.edition(0)), (x, place) -> x.protect(place, true));
        cases.refuses("Promise 23: no edition", Cases.NO_SUCH, World.versionOf(0, 0), x -> x.protect(0, true));
        cases.refuses("Promise 23: an edition without frames", Cases.NO_SUCH, World.then(World.versionOf(),
            x -> x.edition(0)), x -> x.protect(0, true));
        Cases.Use one = World.editionOf(SCRATCHED, SCRATCHED);
        cases.holds("Promise 23, whether it was: at first", false, one, x -> x.protect(0, true));
        cases.holds("Promise 23, whether it was: not protecting at first", false, one, x -> x.protect(1, false));
        cases.holds("Promise 23, whether it was: protected again", true, World.then(one, x -> x.protect(0, true)),
            x -> x.protect(0, true));
        cases.holds("Promise 23, whether it was: not any more", true, World.then(one, x -> x.protect(0, true)),
            x -> x.protect(0, false));
        cases.holds("Promise 23, whether it was: not any more, again", false, World.then(one, x -> {
            x.protect(0, true);
            x.protect(0, false);
        }), x -> x.protect(0, false));
        cases.holds("Promise 23, whether it was: of another frame", false, World.then(one, x -> x.protect(0, true)),
            x -> x.protect(1, true));
        cases.holds("Promise 23, whether it was: of a GAP", true, World.then(World.editionOf(World.GAP),
            x -> x.protect(0, true)), x -> x.protect(0, true));
    }

    private static void limits() {
        cases.range("Promise 24, limit: 0 to 8", 0, 8, Cases.OUT_OF_RANGE, World::standard, (x, limit) -> x.limit(limit));
        cases.answers("Promise 24, the limit before: 4 at first", 4, World::empty, x -> x.limit(0));
        cases.answers("Promise 24, the limit before: 0", 0, x -> x.limit(0), x -> x.limit(1));
        cases.answers("Promise 24, the limit before: 8", 8, x -> x.limit(8), x -> x.limit(0));
        cases.answers("Promise 24, the limit before: the same again", 5, x -> x.limit(5), x -> x.limit(5));
    }

    private static void whats() {
        cases.range("Promise 29, what: 0 to 4", 0, 4, Cases.OUT_OF_RANGE, World::standard, (x, what) -> x.ofFrame(0, what));
        cases.range("Promise 29, what: 0 to 4 of a GAP", 0, 4, Cases.OUT_OF_RANGE, World::standard,
            (x, what) -> x.ofFrame(5, what));
        cases.range("Promise 29, place: its place", 0, 5, Cases.NO_SUCH, World::standard, (x, place) -> x.ofFrame(place, 0));
        cases.refuses("Promise 29: no edition", Cases.NO_SUCH, World.versionOf(0, 0), x -> x.ofFrame(0, 0));
        cases.refuses("Promise 29: no frame goes ahead of out of range", Cases.NO_SUCH, World::standard,
            x -> x.ofFrame(6, 5));
        for (int what = 0; what <= 4; what++) {
            int asked = what;
            cases.refuses("Promise 29, no frame: what " + what, Cases.NO_SUCH, World::standard,
                x -> x.ofFrame(6, asked));
        }
        cases.answers("Promise 29, its reel: the twelfth", 11, World.then(World.twelveReels(), x -> {
            World.frame(x, 11, 99, SCRATCHED);
            World.addVersion(x, 99, 99);
            x.edition(0);
        }), x -> x.ofFrame(0, REEL));
    }

    private static void unlikeAndChanges() {
        Cases.Use scratched = World.then(World.editionOf(SCRATCHED, SCRATCHED), x -> x.scratch(3, 0, 0, 0));
        Cases.Use all = World.then(World.editionOf(World.flat(9), World.flat(90), World.flat(9)), x -> {
            x.limit(8);
            x.flicker();
        });
        cases.answers("Promise 29, how many are unlike: none at first", 0, World.editionOf(SCRATCHED),
            x -> x.ofFrame(0, UNLIKE));
        cases.answers("Promise 29, how many are unlike: one", 1, scratched, x -> x.ofFrame(0, UNLIKE));
        cases.answers("Promise 29, how many are unlike: all 8", 8, all, x -> x.ofFrame(1, UNLIKE));
        cases.answers("Promise 29, how many are unlike: not those of another frame", 0, scratched, x -> x.ofFrame(1, UNLIKE));
        cases.answers("Promise 29, how many are unlike: taken back", 0, World.then(all, x -> x.takeBack(0)),
            x -> x.ofFrame(1, UNLIKE));
        cases.answers("Promise 29, how many changes: none at first", 0, World.editionOf(SCRATCHED),
            x -> x.ofFrame(0, CHANGES));
        cases.answers("Promise 29, how many changes: one of 8 points", 1, all, x -> x.ofFrame(1, CHANGES));
        Cases.Use thrice = World.then(World.editionOf(new int[] {0, 200, 100, 0, 0, 0, 0, 0}), x -> {
            x.scratch(1, 0, 0, 0);
            x.scratch(2, 0, 0, 0);
            x.scratch(1, 0, 0, 0);
        });
        cases.answers("Promise 29, how many changes: two of one point count as two", 3, thrice, x -> x.ofFrame(0, CHANGES));
        cases.answers("Promise 29, how many are unlike: two changes of one point are one", 2, thrice,
            x -> x.ofFrame(0, UNLIKE));
        cases.answers("Promise 29, how many changes: not those that were taken back", 0, World.then(scratched,
            x -> x.takeBack(0)), x -> x.ofFrame(0, CHANGES));
        cases.answers("Promise 29, how many changes: not those of another frame", 0, scratched, x -> x.ofFrame(1, CHANGES));
    }

    private static void seen() {
        cases.range("Promise 30, place: its place", 0, 5, Cases.NO_SUCH, World::standard, (x, place) -> x.seen(place));
        cases.refuses("Promise 30: no edition", Cases.NO_SUCH, World.versionOf(0, 0), x -> x.seen(0));
        cases.answers("Promise 30: a frame of points 255", -1L, World.editionOf(World.flat(255)), x -> x.seen(0));
        cases.answers("Promise 30: as it is now", World.points(World.flat(9)), World.then(World.editionOf(SCRATCHED),
            x -> x.scratch(3, 0, 0, 0)), x -> x.seen(0));
        cases.answers("Promise 30: taken back", World.points(SCRATCHED), World.then(World.editionOf(SCRATCHED), x -> {
            x.scratch(3, 0, 0, 0);
            x.takeBack(0);
        }), x -> x.seen(0));
    }

    /** The sum, told with numbers that do not go round by themselves. */
    private static long sumOf(long... frames) {
        BigInteger whole = BigInteger.ONE.shiftLeft(64);
        BigInteger sum = BigInteger.valueOf(START_SUM);
        for (long frame : frames) {
            BigInteger laidOver = sum.xor(BigInteger.valueOf(frame).mod(whole));
            sum = laidOver.multiply(BigInteger.valueOf(1099511628211L)).mod(whole);
        }
        return sum.longValue();
    }

    private static void sum(String name, int[]... frames) {
        long[] taken = new long[frames.length];
        for (int i = 0; i < frames.length; i++) {
            taken[i] = frames[i] == World.GAP ? 0L : World.points(frames[i]);
        }
        cases.answers("Promise 31, as they are now: " + name, sumOf(taken), World.editionOf(frames), x -> x.sum(true));
        cases.answers("Promise 31, as they were taken: " + name, sumOf(taken), World.editionOf(frames), x -> x.sum(false));
    }

    private static void sums() {
        cases.answers("Promise 31: without an edition, as it is now", START_SUM, World.versionOf(0, 9), x -> x.sum(true));
        cases.answers("Promise 31: without an edition, as it was taken", START_SUM, World.versionOf(0, 9), x -> x.sum(false));
        cases.answers("Promise 31: one GAP goes round to a number that is told here", 4953163356653287321L,
            World.editionOf(World.GAP), x -> x.sum(true));
        sum("no frames");
        sum("one GAP", World.GAP);
        sum("points 0", World.flat(0));
        sum("points 255", World.flat(255));
        sum("point 7 alone, of the sign", World.but(World.flat(0), 7, 128));
        sum("two frames", World.flat(1), World.flat(255));
        sum("two frames, the other way round", World.flat(255), World.flat(1));
        Cases.Use mended = World.then(World.editionOf(SCRATCHED), x -> x.scratch(3, 0, 0, 0));
        cases.answers("Promise 31, as they are now: a mended one", sumOf(World.points(World.flat(9))), mended,
            x -> x.sum(true));
        cases.answers("Promise 31, as they were taken: a mended one", sumOf(World.points(SCRATCHED)), mended,
            x -> x.sum(false));
        cases.answers("Promise 31, as they are now: taken back", sumOf(World.points(SCRATCHED)), World.then(mended,
            x -> x.takeBack(0)), x -> x.sum(true));
        cases.answers("Promise 31: 120 GAPs", sumOf(new long[120]), World.then(World.versionOf(0, 119),
            x -> x.edition(0)), x -> x.sum(true));
    }
}
