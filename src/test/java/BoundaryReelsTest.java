/** The boundary cases of promises 1 to 7 and 32 and of the terms that they use, each alone. */
public final class BoundaryReelsTest {
    private static final int NONE = Reelrescue.NONE;
    private static final int NITRATE = Reelrescue.NITRATE;
    private static final int ACETATE = Reelrescue.ACETATE;
    private static final int FRAMES = 0, GENERATION = 1, DECAY = 2, READABLE = 3, JUMPS = 4, MISSING = 5, FAULTS = 6,
        PARENT = 7, YEAR = 8;

    private static final Cases cases = new Cases();

    public static void main(String[] args) {
        newObject();
        reelArguments();
        reelsAndParents();
        twelveReels();
        frameArguments();
        points();
        sixtyFrames();
        splices();
        decaying();
        readable();
        yearToCopy();
        copyArguments();
        copies();
        whats();
        jumps();
        missing();
        faults();
        parentsByYear();
        parentsByFaults();
        passing();
        cases.end();
    }

    private static void newObject() {
        cases.refuses("Promise 1: no reels", Cases.NO_SUCH, World::empty, x -> x.ofReel(0, FRAMES));
        cases.refuses("Promise 1: no versions", Cases.NO_SUCH, World::empty, x -> x.ofVersion(0, 0));
        cases.refuses("Promise 1: no edition", Cases.NO_SUCH, World::empty, x -> x.seen(0));
        cases.answers("Promise 1: the year 2000, to be passed", 2001, World::empty, x -> x.pass(1));
        cases.answers("Promise 1: the year 2000, of a copy", 2000, x -> World.reel(x, 0), x -> x.ofReel(x.copy(0), YEAR));
    }

    private static void reelArguments() {
        Cases.Use world = World::standard;
        cases.range("Promise 2, base: NITRATE or ACETATE", 0, 1, Cases.OUT_OF_RANGE, world,
            (x, base) -> x.reel(base, 1950, 0, NONE, 0));
        cases.range("Promise 2, year: 1890 to 2000", 1890, 2000, Cases.OUT_OF_RANGE, world,
            (x, year) -> x.reel(NITRATE, year, 0, NONE, 0));
        cases.range("Promise 2, land: 0 to 3", 0, 3, Cases.OUT_OF_RANGE, world,
            (x, land) -> x.reel(NITRATE, 1950, land, NONE, 0));
        cases.range("Promise 2, parent: an earlier reel, or NONE", NONE, 2, Cases.NO_SUCH, world,
            (x, parent) -> x.reel(NITRATE, 1950, 0, parent, 0));
        cases.range("Promise 2, decay: 0 to 299", 0, 299, Cases.OUT_OF_RANGE, world,
            (x, decay) -> x.reel(NITRATE, 1950, 0, NONE, decay));
        cases.refuses("Promise 2: no parent goes ahead of out of range", Cases.NO_SUCH, world,
            x -> x.reel(2, 1889, 4, 3, 300));
        cases.refuses("Promise 2: no parent goes ahead of 12 reels", Cases.NO_SUCH, World.twelveReels(),
            x -> x.reel(NITRATE, 1950, 0, 12, 0));
        cases.refuses("Promise 2: out of range goes ahead of 12 reels", Cases.OUT_OF_RANGE, World.twelveReels(),
            x -> x.reel(NITRATE, 1950, 0, NONE, 300));
    }

    private static void reelsAndParents() {
        cases.answers("Promise 2: the first year is kept", 1890,
            x -> World.reelOf(x, NITRATE, 1890, NONE, 0), x -> x.ofReel(0, YEAR));
        cases.answers("Promise 2: the last year is kept", 2000,
            x -> World.reelOf(x, NITRATE, 2000, NONE, 0), x -> x.ofReel(0, YEAR));
        cases.answers("Promise 2: no decay is kept", 0, x -> World.reel(x, 0), x -> x.ofReel(0, DECAY));
        cases.answers("Promise 2: the most decay is kept", 299, x -> World.reel(x, 299), x -> x.ofReel(0, DECAY));
        cases.answers("Promise 2: without frames", 0, x -> World.reel(x, 0), x -> x.ofReel(0, FRAMES));
        cases.answers("Promise 2: not kept cold", 3, x -> {
            World.reel(x, 0);
            x.pass(1);
        }, x -> x.ofReel(0, DECAY));
        cases.answers("Reels: the generation of the camera is 0", 0, x -> World.reel(x, 0), x -> x.ofReel(0, GENERATION));
        cases.answers("Reels: the generation is 1 more than that of reel 0", 1, x -> {
            World.reel(x, 0);
            World.reelOf(x, NITRATE, 1950, 0, 0);
        }, x -> x.ofReel(1, GENERATION));
        cases.answers("Reels: the generation goes up to 11", 11, World.twelveReels(), x -> x.ofReel(11, GENERATION));
        cases.answers("Reels: the parent may be a reel that cannot be read", 1, x -> {
            World.reel(x, 299);
            x.pass(1);
        }, x -> x.ofReel(x.reel(NITRATE, 1950, 0, 0, 0), GENERATION));
        cases.refuses("Promise 2: a first reel cannot be its own parent", Cases.NO_SUCH, World::empty,
            x -> x.reel(NITRATE, 1950, 0, 0, 0));
    }

    private static void twelveReels() {
        Cases.Use eleven = x -> {
            for (int i = 0; i < 11; i++) {
                World.reel(x, 0);
            }
        };
        cases.answers("Reels are numbered from 0", 0, World::empty, x -> x.reel(NITRATE, 1950, 0, NONE, 0));
        cases.answers("Reels, at most 12: the twelfth", 11, eleven, x -> x.reel(NITRATE, 1950, 0, NONE, 0));
        cases.answers("Reels, at most 12: the twelfth is a copy", 11, eleven, x -> x.copy(10));
        cases.refuses("Promise 2: a thirteenth reel", Cases.NOT_NOW, World.twelveReels(),
            x -> x.reel(NITRATE, 1950, 0, NONE, 0));
        cases.refuses("Promise 6: a thirteenth reel", Cases.NOT_NOW, World.twelveReels(), x -> x.copy(0));
        cases.answers("Promise 2: a refused reel is not counted", 11, World.then(eleven, x -> {
            try {
                x.reel(NITRATE, 1950, 4, NONE, 0);
            } catch (IllegalArgumentException refused) {
                return;
            }
        }), x -> x.reel(NITRATE, 1950, 0, NONE, 0));
    }

    private static void frameArguments() {
        Cases.Use world = World::standard;
        cases.range("Promise 3, reel: its number", 0, 2, Cases.NO_SUCH, world, (x, reel) -> x.frame(reel, 0, 0, 0));
        cases.range("Promise 3, code: 0 to 999", 0, 999, Cases.OUT_OF_RANGE, world, (x, code) -> x.frame(0, code, 0, 0));
        cases.refuses("Promise 3: no reel at all", Cases.NO_SUCH, World::empty, x -> x.frame(0, 0, 0, 0));
        cases.refuses("Promise 3: no reel goes ahead of out of range", Cases.NO_SUCH, world, x -> x.frame(3, 1000, 0, 0));
        cases.refuses("Promise 3: out of range goes ahead of 60 frames", Cases.OUT_OF_RANGE, World.codesFrom0(60),
            x -> x.frame(0, 1000, 0, 0));
        cases.takes("Promise 3: a reel that cannot be read takes frames", world, x -> x.frame(2, 13, 0, 0));
    }

    private static void points() {
        seen("Promise 3, first: -1 are the points 0 to 3", -1, 0, 255, 255, 255, 255, 0, 0, 0, 0);
        seen("Promise 3, last: -1 are the points 4 to 7", 0, -1, 0, 0, 0, 0, 255, 255, 255, 255);
        seen("Promise 3, first: the least int", Integer.MIN_VALUE, 0, 0, 0, 0, 128, 0, 0, 0, 0);
        seen("Promise 3, last: the least int", 0, Integer.MIN_VALUE, 0, 0, 0, 0, 0, 0, 0, 128);
        seen("Promise 3, first: the greatest int", Integer.MAX_VALUE, 0, 255, 255, 255, 127, 0, 0, 0, 0);
        seen("Promise 3, last: the greatest int", 0, Integer.MAX_VALUE, 0, 0, 0, 0, 255, 255, 255, 127);
        seen("Frames: point 0 is the lowest bits", 1, 0, 1, 0, 0, 0, 0, 0, 0, 0);
        seen("Frames: point 7 is the highest bits", 0, 0xFF000000, 0, 0, 0, 0, 0, 0, 0, 255);
        cases.answers("Frames, told as a long: a point 7 of 255 makes it negative", -72057594037927936L, x -> {
            World.reel(x, 0);
            x.frame(0, 0, 0, 0xFF000000);
            World.addVersion(x, 0, 0);
            x.edition(0);
        }, x -> x.seen(0));
    }

    private static void seen(String name, int first, int last, int... due) {
        cases.answers(name, World.points(due), x -> {
            World.reel(x, 0);
            x.frame(0, 0, first, last);
            World.addVersion(x, 0, 0);
            x.edition(0);
        }, x -> x.seen(0));
    }

    private static void sixtyFrames() {
        cases.answers("Promise 3, how many it has then: the first", 1, x -> World.reel(x, 0), x -> x.frame(0, 5, 0, 0));
        cases.answers("Reels, at most 60 frames: the sixtieth", 60, World.codesFrom0(59), x -> x.frame(0, 59, 0, 0));
        cases.refuses("Promise 3: a frame above 60", Cases.NOT_NOW, World.codesFrom0(60), x -> x.frame(0, 60, 0, 0));
        cases.answers("Reels, at most 60 frames: each of them", 1, World.then(World.codesFrom0(60), x -> World.reel(x, 0)),
            x -> x.frame(1, 0, 0, 0));
        cases.answers("Reels, at most 60 frames: of one code", 60, x -> {
            World.reel(x, 0);
            for (int i = 0; i < 59; i++) {
                x.frame(0, 7, 0, 0);
            }
        }, x -> x.frame(0, 7, 0, 0));
        cases.answers("Promise 3: at the end of the reel", 59, World.then(World.codesFrom0(60), x -> {
            World.addVersion(x, 59, 59);
            x.edition(0);
        }), x -> x.ofFrame(0, 2));
    }

    private static void splices() {
        Cases.Use world = World::standard;
        cases.range("Promise 4, reel: its number", 0, 2, Cases.NO_SUCH, world, (x, reel) -> x.splice(reel, 0));
        cases.range("Promise 4, place: that of the frame", 0, 4, Cases.NO_SUCH, world, (x, place) -> x.splice(0, place));
        cases.range("Promise 4, place: that of 60 frames", 0, 59, Cases.NO_SUCH, World.codesFrom0(60),
            (x, place) -> x.splice(0, place));
        cases.refuses("Promise 4: a reel without frames", Cases.NO_SUCH, x -> World.reel(x, 0), x -> x.splice(0, 0));
        cases.refuses("Promise 4: no reel at all", Cases.NO_SUCH, World::empty, x -> x.splice(0, 0));
        cases.answers("Promise 4, how many splices: the first", 1, World.codesFrom0(3), x -> x.splice(0, 2));
        cases.answers("Promise 4, how many splices: one that there was", 1, World.then(World.codesFrom0(3),
            x -> x.splice(0, 1)), x -> x.splice(0, 1));
        cases.answers("Promise 4, how many splices: the last of 60", 60, World.then(World.codesFrom0(60), x -> {
            for (int place = 0; place < 59; place++) {
                x.splice(0, place);
            }
        }), x -> x.splice(0, 59));
        cases.answers("Promise 4, how many splices: those of that reel", 1, World.then(World.codesFrom0(3), x -> {
            x.splice(0, 0);
            World.reel(x, 0, 1);
        }), x -> x.splice(1, 0));
        cases.answers("Promise 4: two splices behind frames of one code", 2, x -> {
            World.reel(x, 0, 7, 7);
            x.splice(0, 0);
        }, x -> x.splice(0, 1));
    }

    private static void decaying() {
        decays("Decay: by 3 of NITRATE", 3, NITRATE, false);
        decays("Decay: by 2 of ACETATE", 2, ACETATE, false);
        decays("Decay: by a third of 3, kept cold", 1, NITRATE, true);
        decays("Decay: by a third of 2, rounded down, but at least 1", 1, ACETATE, true);
        cases.answers("Decay: kept cold in that year alone", 4, x -> {
            World.reel(x, 0);
            x.cold(0, true);
            x.pass(1);
            x.cold(0, false);
            x.pass(1);
        }, x -> x.ofReel(0, DECAY));
        cases.answers("Decay: kept cold and not any more within one year", 3, x -> {
            World.reel(x, 0);
            x.cold(0, true);
            x.cold(0, false);
            x.pass(1);
        }, x -> x.ofReel(0, DECAY));
        cases.answers("Decay: in each of 100 years", 300, x -> {
            World.reel(x, 0);
            x.pass(100);
        }, x -> x.ofReel(0, DECAY));
        cases.answers("Decay: it goes on when it cannot be read", 302, x -> {
            World.reel(x, 299);
            x.pass(1);
        }, x -> x.ofReel(0, DECAY));
        cases.answers("Decay: not in the years ahead of the reel", 3, x -> {
            x.pass(50);
            World.reel(x, 0);
            x.pass(1);
        }, x -> x.ofReel(0, DECAY));
        cases.answers("Decay: the last reel of 12 decays, too", 2, World.then(World.twelveReels(), x -> x.pass(1)),
            x -> x.ofReel(11, DECAY));
    }

    private static void decays(String name, int due, int base, boolean cold) {
        cases.answers(name, due, x -> {
            World.reelOf(x, base, 1950, NONE, 0);
            x.cold(0, cold);
            x.pass(1);
        }, x -> x.ofReel(0, DECAY));
    }

    private static void readable() {
        Cases.Use at300 = x -> {
            World.reel(x, 299, 5);
            World.reel(x, 0, 5);
            x.cold(0, true);
            x.pass(1);
        };
        cases.answers("Decay: it can be read at 299", 1, x -> World.reel(x, 299), x -> x.ofReel(0, READABLE));
        cases.answers("Decay: it cannot be read at 300", 0, at300, x -> x.ofReel(0, READABLE));
        cases.answers("Promise 6: a reel of decay 299 is copied", 1, x -> World.reel(x, 299), x -> x.copy(0));
        cases.refuses("Promise 6: a reel of decay 300 cannot be read", Cases.NOT_NOW, at300, x -> x.copy(0));
        cases.answers("Decay: keeping it cold does not make it readable again", 0, at300, x -> {
            x.cold(0, true);
            return x.ofReel(0, READABLE);
        });
    }

    private static void yearToCopy() {
        copiedIn("Decay 200 or more: NITRATE from 0 passes it", 2067, NITRATE, 0, false);
        copiedIn("Decay 200 or more: NITRATE from 2 meets it", 2066, NITRATE, 2, false);
        copiedIn("Decay 200 or more: ACETATE from 0 meets it", 2100, ACETATE, 0, false);
        copiedIn("Decay 200 or more: ACETATE from 1 passes it", 2100, ACETATE, 1, false);
        copiedIn("Decay 200 or more: cold NITRATE from 0", 2200, NITRATE, 0, true);
        copiedIn("Decay 200 or more: cold ACETATE from 0", 2200, ACETATE, 0, true);
        copiedIn("Decay 200 or more: 1 less", 2001, NITRATE, 199, false);
        copiedIn("Decay 200 or more: 1 less, kept cold", 2001, NITRATE, 199, true);
        copiedIn("Decay 200 or more: 3 less, as NITRATE decays", 2001, NITRATE, 197, false);
        copiedIn("Decay 200 or more: 4 less, 1 more than NITRATE decays", 2002, NITRATE, 196, false);
        copiedIn("Decay 200 or more: in the year of now", 2000, NITRATE, 200, false);
        copiedIn("Decay 200 or more: long ago, it is the year of now", 2000, NITRATE, 299, true);
        cases.answers("Decay 200 or more: from that of now on, where it cannot be read", 2100, x -> {
            World.reel(x, 299);
            x.pass(100);
        }, x -> x.cold(0, false));
        cases.answers("Decay 200 or more: in a year above 2200", 2400, x -> {
            x.pass(100);
            x.pass(100);
            World.reel(x, 0);
        }, x -> x.cold(0, true));
        cases.range("Promise 5, reel: its number", 0, 2, Cases.NO_SUCH, World::standard, (x, reel) -> x.cold(reel, true));
        cases.range("Promise 5, reel: its number, not cold", 0, 2, Cases.NO_SUCH, World::standard,
            (x, reel) -> x.cold(reel, false));
        cases.refuses("Promise 5: no reel at all", Cases.NO_SUCH, World::empty, x -> x.cold(0, true));
        cases.answers("Promise 5: one reel is kept cold, not another", 3, x -> {
            World.reel(x, 0);
            World.reel(x, 0);
            x.cold(0, true);
            x.pass(1);
        }, x -> x.ofReel(1, DECAY));
    }

    private static void copiedIn(String name, int due, int base, int decay, boolean cold) {
        cases.answers(name, due, x -> World.reelOf(x, base, 1950, NONE, decay), x -> x.cold(0, cold));
    }

    private static void copyArguments() {
        Cases.Use two = x -> {
            World.reel(x, 0, 5, 6, 7);
            World.reel(x, 0, 5, 6, 7);
        };
        cases.range("Promise 6, reel: its number", 0, 1, Cases.NO_SUCH, two, (x, reel) -> x.copy(reel));
        cases.refuses("Promise 6: no reel at all", Cases.NO_SUCH, World::empty, x -> x.copy(0));
        cases.refuses("Promise 6: it cannot be read", Cases.NOT_NOW, World::standard, x -> x.copy(2));
        cases.refuses("Promise 6: no reel goes ahead of 12 reels", Cases.NO_SUCH, World.twelveReels(), x -> x.copy(12));
    }

    private static void copies() {
        Cases.Use cold = x -> {
            World.reel(x, 299, 5, 8);
            x.splice(0, 1);
            x.cold(0, true);
            x.copy(0);
        };
        cases.answers("Copies: without decay, of a reel of 299", 0, cold, x -> x.ofReel(1, DECAY));
        cases.answers("Copies: of ACETATE, not kept cold", 2, World.then(cold, x -> x.pass(1)), x -> x.ofReel(1, DECAY));
        cases.answers("Copies: of this year", 2200, x -> {
            World.reel(x, 0);
            x.cold(0, true);
            x.pass(100);
            x.pass(100);
            x.copy(0);
        }, x -> x.ofReel(1, YEAR));
        cases.answers("Copies: 1 generation more", 1, cold, x -> x.ofReel(1, GENERATION));
        cases.answers("Copies: splices are printed through", 1, cold, x -> x.splice(1, 1));
        cases.answers("Copies: a fault of the copy, too", 3, cold, x -> x.ofReel(1, FAULTS));
        cases.answers("Copies: of a reel without frames", 0, x -> {
            World.reel(x, 0);
            x.copy(0);
        }, x -> x.ofReel(1, FRAMES));
        cases.answers("Copies: of a reel of 60 frames", 60, World.then(World.codesFrom0(60), x -> x.copy(0)),
            x -> x.ofReel(1, FRAMES));
        cases.refuses("Promise 3: a frame above 60 of a copy", Cases.NOT_NOW, World.then(World.codesFrom0(60),
            x -> x.copy(0)), x -> x.frame(1, 60, 0, 0));
        cases.isFloat("Copies: the last frame of 60 as it is", 1.0f, World.then(World.codesFrom0(60), x -> x.copy(0)),
            x -> x.alike(0, 59, 1, 59));
        cases.answers("Copies: a later frame of the first reel is not in it", 2, World.then(cold,
            x -> x.frame(0, 9, 0, 0)), x -> x.ofReel(1, FRAMES));
        cases.answers("Copies: a later splice of the first reel is not in it", 3, World.then(cold,
            x -> x.splice(0, 0)), x -> x.ofReel(1, FAULTS));
    }

    private static void whats() {
        cases.range("Promise 7, what: 0 to 8", 0, 8, Cases.OUT_OF_RANGE, World::standard, (x, what) -> x.ofReel(0, what));
        cases.range("Promise 7, reel: its number", 0, 2, Cases.NO_SUCH, World::standard, (x, reel) -> x.ofReel(reel, 0));
        cases.refuses("Promise 7: no reel goes ahead of out of range", Cases.NO_SUCH, World::standard,
            x -> x.ofReel(3, 9));
        for (int what = 0; what <= 8; what++) {
            int asked = what;
            cases.refuses("Promise 7, no reel: what " + what, Cases.NO_SUCH, World::standard, x -> x.ofReel(3, asked));
        }
        cases.answers("Promise 7: the last of 12 reels", 2, World.twelveReels(), x -> x.ofReel(11, FRAMES));
    }

    private static void jumps() {
        jumpsOf("without frames", 0);
        jumpsOf("the first frame has none ahead", 0, 5);
        jumpsOf("1 more is none", 0, 5, 6);
        jumpsOf("2 more", 1, 5, 7);
        jumpsOf("the same code", 1, 5, 5);
        jumpsOf("1 less", 1, 5, 4);
        jumpsOf("from 999 to 0, for codes do not go round", 1, 999, 0);
        jumpsOf("from 0 to 999", 1, 0, 999);
        jumpsOf("to the last frame", 1, 5, 6, 7, 9);
        jumpsOf("to each frame", 3, 5, 7, 9, 11);
        cases.answers("Jumps: all of 60 frames", 59, x -> {
            World.reel(x, 0);
            for (int i = 0; i < 60; i++) {
                x.frame(0, 7, 0, 0);
            }
        }, x -> x.ofReel(0, JUMPS));
    }

    private static void jumpsOf(String name, int due, int... codes) {
        cases.answers("Jumps: " + name, due, x -> World.reel(x, 0, codes), x -> x.ofReel(0, JUMPS));
    }

    private static void missing() {
        missingOf("without frames", 0);
        missingOf("one frame", 0, 5);
        missingOf("the same code again", 0, 5, 5);
        missingOf("1 more", 0, 5, 6);
        missingOf("2 more", 1, 5, 7);
        missingOf("2 less", 1, 7, 5);
        missingOf("from 0 to 999", 998, 0, 999);
        missingOf("codes 0 and 1", 0, 0, 1);
        missingOf("codes 998 and 999", 0, 998, 999);
        missingOf("code 0 alone", 0, 0);
        missingOf("code 999 alone", 0, 999);
        missingOf("a later frame has it", 0, 5, 7, 6);
        missingOf("neither below the least nor above the greatest one", 0, 500);
    }

    private static void missingOf(String name, int due, int... codes) {
        cases.answers("Missing: " + name, due, x -> World.reel(x, 0, codes), x -> x.ofReel(0, MISSING));
    }

    private static void faults() {
        faultsOf("without frames and splices", 0, new int[] {});
        faultsOf("no splice and none missing", 0, new int[] {5, 6});
        faultsOf("a code that is missing", 1, new int[] {5, 7});
        faultsOf("a splice behind the first frame", 1, new int[] {5, 6}, 0);
        faultsOf("a splice behind the last frame", 1, new int[] {5, 6}, 1);
        faultsOf("a splice behind the only frame", 1, new int[] {5}, 0);
        faultsOf("a splice behind code 0", 1, new int[] {0}, 0);
        faultsOf("a splice behind code 999", 1, new int[] {999}, 0);
        faultsOf("two splices behind frames of one code", 1, new int[] {5, 5}, 0, 1);
        faultsOf("one of two frames of a code has a splice", 1, new int[] {5, 5}, 1);
        faultsOf("the same splice again", 1, new int[] {5}, 0, 0);
        faultsOf("both kinds", 2, new int[] {5, 7}, 0);
        faultsOf("each code but 0 and 999, and these", 1000, new int[] {0, 999}, 0, 1);
        cases.answers("Faults: a splice leaves none missing", 0, x -> {
            World.reel(x, 0, 5, 6, 7);
            x.splice(0, 1);
        }, x -> x.ofReel(0, MISSING));
    }

    private static void faultsOf(String name, int due, int[] codes, int... splices) {
        cases.answers("Faults: " + name, due, x -> {
            World.reel(x, 0, codes);
            for (int place : splices) {
                x.splice(0, place);
            }
        }, x -> x.ofReel(0, FAULTS));
    }

    /** Reels of these years, without faults; the guessed parent of that numbered asked. */
    private static void parentByYear(String name, int due, int asked, int... years) {
        cases.answers("Guessed parent: " + name, due, x -> {
            for (int year : years) {
                World.reelOf(x, NITRATE, year, NONE, 0);
            }
        }, x -> x.ofReel(asked, PARENT));
    }

    private static void parentsByYear() {
        parentByYear("there is no other reel", NONE, 0, 1950);
        parentByYear("of an earlier year", 0, 1, 1949, 1950);
        parentByYear("of an earlier year with a higher number", 1, 0, 1950, 1949);
        parentByYear("not of a later year", NONE, 1, 1951, 1950);
        parentByYear("not of a later year with a higher number", NONE, 0, 1950, 1951);
        parentByYear("of the same year with a lower number", 0, 1, 1950, 1950);
        parentByYear("not of the same year with a higher number", NONE, 0, 1950, 1950);
        parentByYear("of several the lowest, without faults", 1, 3, 1960, 1950, 1950, 1950);
        parentByYear("of several the lowest, not the earliest", 0, 2, 1949, 1890, 1950);
        cases.answers("Guessed parent: the last of 12", 0, World.twelveReels(), x -> x.ofReel(11, PARENT));
        cases.answers("Guessed parent: it may be a reel that cannot be read", 0, x -> {
            World.reel(x, 299);
            World.reel(x, 0);
            x.pass(1);
        }, x -> x.ofReel(1, PARENT));
        cases.answers("Guessed parent: a reel that cannot be read has one", 0, x -> {
            World.reel(x, 0);
            World.reel(x, 299);
            x.pass(1);
        }, x -> x.ofReel(1, PARENT));
    }

    /** Reels of one year with these codes; the guessed parent of the last one. */
    private static void parentByFaults(String name, int due, int[]... reels) {
        cases.answers("Guessed parent: " + name, due, x -> {
            for (int[] codes : reels) {
                World.reel(x, 0, codes);
            }
        }, x -> x.ofReel(reels.length - 1, PARENT));
    }

    private static void parentsByFaults() {
        int[] child = {10, 12, 14, 16};
        parentByFaults("the same faults", 0, child, child);
        parentByFaults("1 fault less", 0, new int[] {10, 12, 14}, child);
        parentByFaults("none of its faults", 0, new int[] {1, 2}, child);
        parentByFaults("1 fault more", NONE, new int[] {10, 12, 14, 16, 18}, child);
        parentByFaults("as many faults, but another one", NONE, new int[] {10, 12, 14, 15, 17}, child);
        parentByFaults("a fault below the least code", NONE, new int[] {8, 10}, child);
        parentByFaults("a fault above the greatest code", NONE, new int[] {16, 18}, child);
        parentByFaults("the one with the most faults", 1, new int[] {10, 12}, new int[] {10, 12, 14}, child);
        parentByFaults("with the most faults, ahead of fewer", 0, new int[] {10, 12, 14}, new int[] {10, 12}, child);
        parentByFaults("of several with as many the lowest", 0, new int[] {10, 12}, new int[] {14, 16}, child);
        parentByFaults("a child without frames, a parent without faults", 0, new int[] {1}, new int[] {});
        parentByFaults("a child without frames, a parent with a fault", NONE, new int[] {1, 3}, new int[] {});
        cases.answers("Guessed parent: a splice that the child has not", NONE, x -> {
            World.reel(x, 0, 5, 6);
            x.splice(0, 0);
            World.reel(x, 0, 5, 6);
        }, x -> x.ofReel(1, PARENT));
        cases.answers("Guessed parent: a splice behind its last frame that the child has not", NONE, x -> {
            World.reel(x, 0, 5, 6);
            x.splice(0, 1);
            World.reel(x, 0, 5, 6);
        }, x -> x.ofReel(1, PARENT));
        cases.answers("Guessed parent: a splice behind a code that the child misses", 0, x -> {
            World.reel(x, 0, 5, 6);
            x.splice(0, 1);
            World.reel(x, 0, 5, 7);
        }, x -> x.ofReel(1, PARENT));
        cases.answers("Guessed parent: a splice behind another frame of the code", 0, x -> {
            World.reel(x, 0, 5, 5);
            x.splice(0, 0);
            World.reel(x, 0, 5, 5);
            x.splice(1, 1);
        }, x -> x.ofReel(1, PARENT));
    }

    private static void passing() {
        Cases.Use year2199 = x -> {
            World.reel(x, 0, 1, 2);
            x.cold(0, true);
            x.pass(100);
            x.pass(99);
        };
        Cases.Use year2200 = World.then(year2199, x -> x.pass(1));
        cases.range("Promise 32, years: 1 to 100", 1, 100, Cases.OUT_OF_RANGE, World::standard, (x, years) -> x.pass(years));
        cases.answers("Promise 32, the year: 1 later", 2001, World::empty, x -> x.pass(1));
        cases.answers("Promise 32, the year: 100 later", 2100, World::empty, x -> x.pass(100));
        cases.answers("Promise 32, the year: 2200 is not above 2200", 2200, year2199, x -> x.pass(1));
        cases.refuses("Promise 32: 2201 is above 2200", Cases.NOT_NOW, year2199, x -> x.pass(2));
        cases.refuses("Promise 32: far above 2200", Cases.NOT_NOW, year2199, x -> x.pass(100));
        cases.refuses("Promise 32: above 2200 in 2200", Cases.NOT_NOW, year2200, x -> x.pass(1));
        cases.refuses("Promise 32: no years in 2200", Cases.OUT_OF_RANGE, year2200, x -> x.pass(0));
        cases.refuses("Promise 32: out of range goes ahead of above 2200", Cases.OUT_OF_RANGE, year2200, x -> x.pass(101));
        cases.takes("Promise 2: a reel in 2200 was made in 1890", year2200, x -> x.reel(NITRATE, 1890, 0, NONE, 0));
        cases.refuses("Promise 2: a reel in 2200 was not made in 2001", Cases.OUT_OF_RANGE, year2200,
            x -> x.reel(NITRATE, 2001, 0, NONE, 0));
    }
}
