/** Promises 22, 23 and 29 to 31: what an edition takes, and what is told of it. */
public final class EditionTest {
    private static final int NONE = Reelrescue.NONE;
    private static final int CODE = 0, REEL = 1, PLACE = 2, UNLIKE = 3, CHANGES = 4;

    private static final Check check = new Check();

    public static void main(String[] args) {
        choosing();
        unreadableReels();
        repeatedCodes();
        itStaysAsTaken();
        newEditions();
        protecting();
        gaps();
        sums();
        wrongs();
        check.end();
    }

    private static void reelsOf(Reelrescue x, int decay, int parent, int... codes) {
        int reel = x.reel(Reelrescue.NITRATE, 1950, 0, parent, decay);
        for (int i = 0; i < codes.length; i++) {
            x.frame(reel, codes[i], 100 * reel + i, 0);
        }
    }

    private static void choosing() {
        Reelrescue x = new Reelrescue();
        reelsOf(x, 50, NONE, 1, 2, 3, 4, 5);
        reelsOf(x, 40, 0, 2, 3, 4, 5);
        reelsOf(x, 40, NONE, 3, 4, 5);
        reelsOf(x, 40, NONE, 4, 4, 5);
        reelsOf(x, 39, 1, 9, 5, 5);
        x.version(0, 1950);
        x.shot(0, 4, 6);
        x.shot(0, 1, 3);
        check.is("gaps", 1, x.edition(0));
        frame(x, 0, 4, 2, 1, 201);
        frame(x, 1, 5, 4, 1, 401);
        frame(x, 2, 6, NONE, NONE, 0);
        frame(x, 3, 1, 0, 0, 0);
        frame(x, 4, 2, 1, 0, 100);
        frame(x, 5, 3, 2, 0, 200);
        check.noSuch("a frame behind the last one", () -> x.seen(6));
    }

    private static void frame(Reelrescue x, int at, int code, int reel, int place, long points) {
        check.is("code at " + at, code, x.ofFrame(at, CODE));
        check.is("reel at " + at, reel, x.ofFrame(at, REEL));
        check.is("place at " + at, place, x.ofFrame(at, PLACE));
        check.is("points at " + at, points, x.seen(at));
        check.is("unlike at " + at, 0, x.ofFrame(at, UNLIKE));
        check.is("changes at " + at, 0, x.ofFrame(at, CHANGES));
    }

    private static void unreadableReels() {
        Reelrescue x = new Reelrescue();
        reelsOf(x, 297, NONE, 7);
        x.version(0, 1950);
        x.shot(0, 7, 7);
        check.is("it can be read", 0, x.edition(0));
        x.pass(1);
        check.is("the edition stands", 0, x.ofFrame(0, REEL));
        check.is("it cannot be read any more", 1, x.edition(0));
        check.is("a gap", NONE, x.ofFrame(0, REEL));
        check.is("the code of a gap", 7, x.ofFrame(0, CODE));
    }

    private static void repeatedCodes() {
        Reelrescue x = new Reelrescue();
        reelsOf(x, 10, NONE, 8, 7, 7);
        x.version(0, 1950);
        x.shot(0, 7, 8);
        x.shot(0, 7, 7);
        check.is("gaps", 0, x.edition(0));
        frame(x, 0, 7, 0, 1, 1);
        frame(x, 1, 8, 0, 0, 0);
        frame(x, 2, 7, 0, 1, 1);
    }

    private static void itStaysAsTaken() {
        Reelrescue x = new Reelrescue();
        reelsOf(x, 10, NONE, 7);
        x.version(0, 1950);
        x.shot(0, 7, 8);
        x.edition(0);
        reelsOf(x, 5, NONE, 7, 8);
        x.shot(0, 7, 7);
        frame(x, 0, 7, 0, 0, 0);
        frame(x, 1, 8, NONE, NONE, 0);
        check.noSuch("a later shot is not in it", () -> x.seen(2));
        check.is("a new edition has no gaps", 0, x.edition(0));
        frame(x, 2, 7, 1, 0, 100);
    }

    private static void newEditions() {
        Reelrescue x = new Reelrescue();
        reelsOf(x, 10, NONE, 7, 8, 9);
        x.frame(0, 10, 0x00003200, 0);
        x.version(0, 1950);
        x.shot(0, 7, 10);
        x.version(0, 1950);
        x.edition(0);
        x.protect(1, true);
        check.is("a change", 1, x.scratch(1, 3, 3, 0));
        check.is("a change is in it", 1, x.ofFrame(3, CHANGES));
        check.noSuch("edition of no version", () -> x.edition(2));
        check.noSuch("edition below", () -> x.edition(-1));
        check.is("a refused edition leaves the one there was", 1, x.ofFrame(3, CHANGES));
        check.is("limit", 4, x.limit(5));
        check.is("a new edition", 0, x.edition(0));
        check.noSuch("the changes are gone", () -> x.takeBack(0));
        frame(x, 3, 10, 0, 3, 0x3200);
        check.is("the protection is gone", false, x.protect(1, false));
        check.is("the limit stays", 5, x.limit(4));
        check.is("changes are numbered from 0 again", 1, x.scratch(1, 3, 3, 0));
        check.is("change 0", 3, x.takeBack(0));
        check.is("an edition without shots", 0, x.edition(1));
        check.noSuch("has no frames", () -> x.seen(0));
        check.noSuch("has no changes", () -> x.takeBack(0));
        check.is("has the first sum", 1469598103934665603L, x.sum(true));
        check.is("has no dirt", 0, x.dirt(0));
        check.is("has no flicker", 0, x.flicker());
    }

    private static void protecting() {
        Reelrescue x = new Reelrescue();
        check.noSuch("protect without an edition", () -> x.protect(0, true));
        reelsOf(x, 10, NONE, 7);
        x.version(0, 1950);
        x.shot(0, 7, 8);
        x.edition(0);
        check.is("protect", false, x.protect(0, true));
        check.is("protect again", true, x.protect(0, true));
        check.is("not any more", true, x.protect(0, false));
        check.is("not any more, again", false, x.protect(0, false));
        check.is("a gap", false, x.protect(1, true));
        check.is("a gap", true, x.protect(1, true));
        check.noSuch("place below", () -> x.protect(-1, true));
        check.noSuch("place above", () -> x.protect(2, true));
    }

    private static void gaps() {
        Reelrescue x = new Reelrescue();
        x.version(0, 1950);
        x.shot(0, 0, 3);
        check.is("only gaps", 4, x.edition(0));
        check.is("no dirt in gaps", 0, x.dirt(0));
        check.is("no scratch in gaps", 0, x.scratch(1, 0, 3, 0));
        check.is("no flicker in gaps", 0, x.flicker());
        frame(x, 3, 3, NONE, NONE, 0);
        check.is("the sum of 4 gaps", 3554543661169652019L, x.sum(true));
        check.is("the sum of 4 gaps", 3554543661169652019L, x.sum(false));
    }

    private static void sums() {
        Reelrescue x = new Reelrescue();
        x.reel(0, 1950, 0, NONE, 0);
        x.frame(0, 0, -2, 0x7FEE0102);
        x.frame(0, 1, 0x00640001, -5);
        x.version(0, 1950);
        x.shot(0, 0, 1);
        x.edition(0);
        long first = x.seen(0);
        long second = x.seen(1);
        long taken = ((1469598103934665603L ^ first) * 1099511628211L ^ second) * 1099511628211L;
        check.is("the sum as taken", taken, x.sum(false));
        check.is("the sum as it is", taken, x.sum(true));
        check.is("a scratch", 1, x.scratch(2, 1, 1, 50));
        long mended = ((1469598103934665603L ^ first) * 1099511628211L ^ x.seen(1)) * 1099511628211L;
        check.is("it was changed", true, mended != taken);
        check.is("the sum as taken", taken, x.sum(false));
        check.is("the sum as it is", mended, x.sum(true));
        x.takeBack(0);
        check.is("the sum as it is", taken, x.sum(true));
    }

    private static void wrongs() {
        Reelrescue x = new Reelrescue();
        check.noSuch("ofFrame without an edition", () -> x.ofFrame(0, 9));
        x.version(0, 1950);
        x.shot(0, 0, 1);
        check.noSuch("ofFrame without an edition", () -> x.ofFrame(0, 0));
        x.edition(0);
        check.noSuch("ofFrame below", () -> x.ofFrame(-1, 0));
        check.noSuch("ofFrame above", () -> x.ofFrame(2, 5));
        check.outOfRange("what below", () -> x.ofFrame(0, -1));
        check.outOfRange("what above", () -> x.ofFrame(0, 5));
        check.noSuch("seen below", () -> x.seen(-1));
        check.noSuch("seen above", () -> x.seen(2));
    }
}
