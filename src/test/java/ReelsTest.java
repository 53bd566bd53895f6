/** Promises 1 to 7 and 32: reels, their frames, splices, decay and copies, and years. */
public final class ReelsTest {
    private static final int NONE = Reelrescue.NONE;
    private static final int NITRATE = Reelrescue.NITRATE;
    private static final int ACETATE = Reelrescue.ACETATE;
    private static final int FRAMES = 0, GENERATION = 1, DECAY = 2, READABLE = 3, JUMPS = 4, MISSING = 5, FAULTS = 6,
        PARENT = 7, YEAR = 8;

    private static final Check check = new Check();

    public static void main(String[] args) {
        newObject();
        takingReelsIn();
        twelveReels();
        frames();
        sixtyFrames();
        splices();
        coldAndYearToCopy();
        copies();
        copiesThatCannotBe();
        jumpsAndMissing();
        guessedParent();
        guessedParentOfSeveral();
        wrongWhats();
        passing();
        check.end();
    }

    private static void newObject() {
        Reelrescue x = new Reelrescue();
        check.noSuch("ofReel of a new object", () -> x.ofReel(0, 0));
        check.noSuch("ofVersion of a new object", () -> x.ofVersion(0, 0));
        check.noSuch("seen of a new object", () -> x.seen(0));
        check.noSuch("takeBack of a new object", () -> x.takeBack(0));
        check.is("sum of a new object", 1469598103934665603L, x.sum(true));
        check.is("sum of a new object", 1469598103934665603L, x.sum(false));
        check.is("dirt of a new object", 0, x.dirt(0));
        check.is("flicker of a new object", 0, x.flicker());
        check.is("the tolerance at first", 40, x.tolerance(3));
        check.is("the limit at first", 4, x.limit(3));
        check.is("the year is 2000", 2001, x.pass(1));
    }

    private static void takingReelsIn() {
        Reelrescue x = new Reelrescue();
        check.is("reel", 0, x.reel(NITRATE, 1890, 0, NONE, 0));
        check.is("reel", 1, x.reel(ACETATE, 2000, 3, 0, 299));
        check.is("reel", 2, x.reel(ACETATE, 1950, 1, 1, 7));
        check.is("generation of the camera", 0, x.ofReel(0, GENERATION));
        check.is("generation of a copy", 1, x.ofReel(1, GENERATION));
        check.is("generation of a copy of a copy", 2, x.ofReel(2, GENERATION));
        check.is("frames at first", 0, x.ofReel(2, FRAMES));
        check.is("decay", 7, x.ofReel(2, DECAY));
        check.is("year", 1950, x.ofReel(2, YEAR));
        check.is("a reel of decay 299 can be read", 1, x.ofReel(1, READABLE));
        check.outOfRange("base below", () -> x.reel(-1, 1950, 0, NONE, 0));
        check.outOfRange("base above", () -> x.reel(2, 1950, 0, NONE, 0));
        check.outOfRange("year below", () -> x.reel(0, 1889, 0, NONE, 0));
        check.outOfRange("year above", () -> x.reel(0, 2001, 0, NONE, 0));
        check.outOfRange("land below", () -> x.reel(0, 1950, -1, NONE, 0));
        check.outOfRange("land above", () -> x.reel(0, 1950, 4, NONE, 0));
        check.outOfRange("decay below", () -> x.reel(0, 1950, 0, NONE, -1));
        check.outOfRange("decay above", () -> x.reel(0, 1950, 0, NONE, 300));
        check.noSuch("parent below", () -> x.reel(0, 1950, 0, -2, 0));
        check.noSuch("parent that is itself", () -> x.reel(0, 1950, 0, 3, 0));
        check.noSuch("parent ahead of other faults", () -> x.reel(9, 1, 9, 3, 999));
        check.is("the next reel after refusals", 3, x.reel(NITRATE, 1950, 0, NONE, 0));
    }

    private static void twelveReels() {
        Reelrescue x = new Reelrescue();
        for (int i = 0; i < 12; i++) {
            check.is("reel", i, x.reel(NITRATE, 1950, 0, i - 1, 0));
        }
        check.is("generation of the twelfth", 11, x.ofReel(11, GENERATION));
        check.notNow("a thirteenth reel", () -> x.reel(NITRATE, 1950, 0, NONE, 0));
        check.outOfRange("a thirteenth reel of no base", () -> x.reel(2, 1950, 0, NONE, 0));
        check.noSuch("a thirteenth reel of no parent", () -> x.reel(0, 1950, 0, 12, 0));
        check.notNow("a copy to be the thirteenth", () -> x.copy(0));
    }

    private static void frames() {
        Reelrescue x = new Reelrescue();
        x.reel(NITRATE, 1950, 0, NONE, 0);
        check.is("frame", 1, x.frame(0, 0, -1, 0));
        check.is("frame", 2, x.frame(0, 999, 0x04030201, 0x88070605));
        check.is("frames", 2, x.ofReel(0, FRAMES));
        check.noSuch("frame of no reel", () -> x.frame(1, 0, 0, 0));
        check.noSuch("frame of no reel", () -> x.frame(-1, 5000, 0, 0));
        check.outOfRange("code below", () -> x.frame(0, -1, 0, 0));
        check.outOfRange("code above", () -> x.frame(0, 1000, 0, 0));
        x.version(0, 1950);
        x.shot(0, 0, 0);
        x.shot(0, 999, 999);
        x.edition(0);
        check.is("the lower points do not fill the upper ones", 0xFFFFFFFFL, x.seen(0));
        check.is("the points in their order", 0x8807060504030201L, x.seen(1));
    }

    private static void sixtyFrames() {
        Reelrescue x = new Reelrescue();
        x.reel(NITRATE, 1950, 0, NONE, 0);
        for (int i = 0; i < 60; i++) {
            check.is("frame", i + 1, x.frame(0, i, i, i));
        }
        check.notNow("a frame above 60", () -> x.frame(0, 60, 0, 0));
        check.outOfRange("a frame above 60 of no code", () -> x.frame(0, 1000, 0, 0));
        check.is("frames", 60, x.ofReel(0, FRAMES));
        check.is("a splice behind the last one", 1, x.splice(0, 59));
        check.is("a copy of 60 frames", 60, x.ofReel(x.copy(0), FRAMES));
    }

    private static void splices() {
        Reelrescue x = new Reelrescue();
        x.reel(NITRATE, 1950, 0, NONE, 0);
        check.noSuch("splice of a reel without frames", () -> x.splice(0, 0));
        x.frame(0, 5, 0, 0);
        x.frame(0, 6, 0, 0);
        x.frame(0, 5, 0, 0);
        check.is("splice", 1, x.splice(0, 0));
        check.is("the same splice again", 1, x.splice(0, 0));
        check.is("another splice", 2, x.splice(0, 2));
        check.is("two splices behind one code are one fault", 1, x.ofReel(0, FAULTS));
        check.is("a third splice", 3, x.splice(0, 1));
        check.is("faults", 2, x.ofReel(0, FAULTS));
        check.is("a splice leaves no code missing", 0, x.ofReel(0, MISSING));
        check.noSuch("splice below", () -> x.splice(0, -1));
        check.noSuch("splice above", () -> x.splice(0, 3));
        check.noSuch("splice of no reel", () -> x.splice(1, 0));
    }

    private static void coldAndYearToCopy() {
        Reelrescue x = new Reelrescue();
        x.reel(NITRATE, 1950, 0, NONE, 0);
        x.reel(ACETATE, 1950, 0, NONE, 0);
        x.reel(NITRATE, 1950, 0, NONE, 198);
        x.reel(NITRATE, 1950, 0, NONE, 199);
        x.reel(NITRATE, 1950, 0, NONE, 200);
        x.reel(ACETATE, 1950, 0, NONE, 197);
        check.is("nitrate decays by 3", 2067, x.cold(0, false));
        check.is("nitrate kept cold decays by 1", 2200, x.cold(0, true));
        check.is("acetate decays by 2", 2100, x.cold(1, false));
        check.is("acetate kept cold decays by 1", 2200, x.cold(1, true));
        check.is("less than a year's decay is left", 2001, x.cold(2, false));
        check.is("198 kept cold", 2002, x.cold(2, true));
        check.is("199", 2001, x.cold(3, true));
        check.is("200 is this year", 2000, x.cold(4, true));
        check.is("197 of acetate", 2002, x.cold(5, false));
        check.noSuch("cold of no reel", () -> x.cold(6, true));
        check.noSuch("cold of no reel", () -> x.cold(-1, true));
        x.pass(10);
        check.is("nitrate kept cold", 10, x.ofReel(0, DECAY));
        check.is("acetate kept cold", 10, x.ofReel(1, DECAY));
        check.is("nitrate kept cold", 208, x.ofReel(2, DECAY));
        check.is("acetate", 217, x.ofReel(5, DECAY));
        check.is("not cold any more", 2074, x.cold(0, false));
        x.pass(1);
        check.is("nitrate", 13, x.ofReel(0, DECAY));
        check.is("this year, where it is due already", 2011, x.cold(5, true));
        x.pass(100);
        x.cold(0, true);
        check.is("this year, where it cannot be read any more", 2111, x.cold(0, false));
    }

    private static void copies() {
        Reelrescue x = new Reelrescue();
        x.reel(NITRATE, 1950, 2, NONE, 100);
        x.cold(0, true);
        x.frame(0, 5, 1, 2);
        x.frame(0, 8, 3, 4);
        x.splice(0, 1);
        x.pass(5);
        check.is("copy", 1, x.copy(0));
        check.is("frames of a copy", 2, x.ofReel(1, FRAMES));
        check.is("generation of a copy", 1, x.ofReel(1, GENERATION));
        check.is("decay of a copy", 0, x.ofReel(1, DECAY));
        check.is("year of a copy", 2005, x.ofReel(1, YEAR));
        check.is("jumps of a copy", 1, x.ofReel(1, JUMPS));
        check.is("missing codes of a copy", 2, x.ofReel(1, MISSING));
        check.is("splices are printed through", 3, x.ofReel(1, FAULTS));
        check.is("a printed splice is there already", 1, x.splice(1, 1));
        check.is("another splice of the copy", 2, x.splice(1, 0));
        check.is("not one of the original", 3, x.ofReel(0, FAULTS));
        check.isFloat("the frames as they are", 1.0f, x.alike(0, 1, 1, 1));
        x.pass(1);
        check.is("a copy is of acetate and not kept cold", 2, x.ofReel(1, DECAY));
        check.is("a frame of the copy", 3, x.frame(1, 9, 0, 0));
        check.is("not one of the original", 2, x.ofReel(0, FRAMES));
        check.is("copy of a copy", 2, x.copy(1));
        check.is("generation of a copy of a copy", 2, x.ofReel(2, GENERATION));
        check.is("splices of a copy of a copy", 2, x.splice(2, 1));
    }

    private static void copiesThatCannotBe() {
        Reelrescue x = new Reelrescue();
        check.noSuch("copy of no reel", () -> x.copy(0));
        x.reel(ACETATE, 1950, 0, NONE, 299);
        check.noSuch("copy below", () -> x.copy(-1));
        x.cold(0, true);
        check.is("299 can be copied", 1, x.copy(0));
        x.pass(1);
        check.is("300 cannot be read", 0, x.ofReel(0, READABLE));
        check.notNow("copy of a reel that cannot be read", () -> x.copy(0));
        check.is("nothing was copied", 2, x.copy(1));
    }

    private static void jumpsAndMissing() {
        Reelrescue x = new Reelrescue();
        x.reel(NITRATE, 1950, 0, NONE, 0);
        check.is("jumps without frames", 0, x.ofReel(0, JUMPS));
        check.is("missing without frames", 0, x.ofReel(0, MISSING));
        check.is("faults without frames", 0, x.ofReel(0, FAULTS));
        x.frame(0, 500, 0, 0);
        check.is("jumps of one frame", 0, x.ofReel(0, JUMPS));
        check.is("missing of one frame", 0, x.ofReel(0, MISSING));
        x.frame(0, 501, 0, 0);
        check.is("one more is no jump", 0, x.ofReel(0, JUMPS));
        x.frame(0, 501, 0, 0);
        check.is("the same code is a jump", 1, x.ofReel(0, JUMPS));
        x.frame(0, 499, 0, 0);
        check.is("backward is a jump", 2, x.ofReel(0, JUMPS));
        check.is("none is missing", 0, x.ofReel(0, MISSING));
        x.frame(0, 999, 0, 0);
        check.is("forward is a jump", 3, x.ofReel(0, JUMPS));
        check.is("missing", 497, x.ofReel(0, MISSING));
        x.frame(0, 0, 0, 0);
        check.is("missing down to the least code", 995, x.ofReel(0, MISSING));
        x.splice(0, 5);
        check.is("faults", 996, x.ofReel(0, FAULTS));
        x.frame(0, 700, 0, 0);
        check.is("a code between is missing no more", 994, x.ofReel(0, MISSING));
    }

    private static void framesWithCodes(Reelrescue x, int reel, int... codes) {
        for (int code : codes) {
            x.frame(reel, code, 0, 0);
        }
    }

    private static void guessedParent() {
        Reelrescue x = new Reelrescue();
        x.reel(NITRATE, 1950, 0, NONE, 0);
        check.is("no other reel", NONE, x.ofReel(0, PARENT));
        framesWithCodes(x, 0, 1, 3, 4, 6);
        x.reel(NITRATE, 1949, 0, NONE, 0);
        framesWithCodes(x, 1, 1, 3);
        check.is("of an earlier year, with a higher number", 1, x.ofReel(0, PARENT));
        check.is("none is earlier", NONE, x.ofReel(1, PARENT));
        x.splice(1, 1);
        check.is("it has a fault that is not one of the child", NONE, x.ofReel(0, PARENT));
        x.splice(0, 1);
        check.is("the splice is one of both", 1, x.ofReel(0, PARENT));
        x.reel(NITRATE, 1950, 0, NONE, 0);
        framesWithCodes(x, 2, 1, 3, 4, 6);
        check.is("the same year with a higher number is not", 1, x.ofReel(0, PARENT));
        check.is("the same year with a lower number, but a splice too much", NONE, x.ofReel(2, PARENT));
        x.splice(2, 1);
        check.is("the one with the most faults", 0, x.ofReel(2, PARENT));
        x.splice(2, 0);
        check.is("more faults of its own do not matter", 0, x.ofReel(2, PARENT));
        x.reel(NITRATE, 1890, 0, NONE, 299);
        x.pass(10);
        check.is("a reel that cannot be read has a parent", 0, x.ofReel(2, PARENT));
    }

    private static void guessedParentOfSeveral() {
        Reelrescue x = new Reelrescue();
        x.reel(NITRATE, 1960, 0, NONE, 0);
        x.reel(NITRATE, 1900, 0, NONE, 0);
        x.reel(NITRATE, 1901, 0, NONE, 0);
        check.is("a reel without faults can be one, of several the lowest", 1, x.ofReel(0, PARENT));
        framesWithCodes(x, 0, 10, 12, 14, 16);
        framesWithCodes(x, 1, 10, 12);
        framesWithCodes(x, 2, 14, 16);
        check.is("of several with as many faults the lowest", 1, x.ofReel(0, PARENT));
        framesWithCodes(x, 2, 12);
        check.is("the one with more faults", 2, x.ofReel(0, PARENT));
        framesWithCodes(x, 2, 18);
        check.is("a code missing beyond the child's greatest one", 1, x.ofReel(0, PARENT));
        framesWithCodes(x, 1, 8);
        check.is("a code missing below the child's least one", NONE, x.ofReel(0, PARENT));
    }

    private static void wrongWhats() {
        Reelrescue x = new Reelrescue();
        check.noSuch("ofReel of no reel and what", () -> x.ofReel(0, 9));
        x.reel(NITRATE, 1950, 0, NONE, 0);
        check.outOfRange("what below", () -> x.ofReel(0, -1));
        check.outOfRange("what above", () -> x.ofReel(0, 9));
        check.noSuch("ofReel below", () -> x.ofReel(-1, 0));
    }

    private static void passing() {
        Reelrescue x = new Reelrescue();
        check.outOfRange("0 years", () -> x.pass(0));
        check.outOfRange("101 years", () -> x.pass(101));
        check.outOfRange("years below", () -> x.pass(Integer.MIN_VALUE));
        x.reel(NITRATE, 1950, 0, NONE, 0);
        check.is("pass", 2100, x.pass(100));
        check.is("decay goes on", 300, x.ofReel(0, DECAY));
        check.is("readable no more", 0, x.ofReel(0, READABLE));
        check.is("pass", 2199, x.pass(99));
        check.is("decay is not held at 300", 597, x.ofReel(0, DECAY));
        check.notNow("above 2200", () -> x.pass(2));
        check.outOfRange("above 2200 by no years", () -> x.pass(101));
        check.is("nothing went by", 597, x.ofReel(0, DECAY));
        check.is("to 2200", 2200, x.pass(1));
        check.notNow("above 2200", () -> x.pass(1));
        check.is("a reel in 2200", 1, x.reel(ACETATE, 1950, 0, NONE, 0));
        check.is("the year of a copy in 2200", 2200, x.ofReel(x.copy(1), YEAR));
    }
}
