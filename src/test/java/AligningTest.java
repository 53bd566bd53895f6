/** Promises 8 to 11: the tolerance, pairs of frames, and how alike two are. */
public final class AligningTest {
    private static final int NONE = Reelrescue.NONE;

    private static final Check check = new Check();

    public static void main(String[] args) {
        tolerances();
        distances();
        laterPairsFirst();
        firstReelIsLeftFirst();
        ordersMatter();
        withItself();
        wholeReels();
        wrongs();
        unreadable();
        alikeness();
        againstEveryWay();
        check.end();
    }

    private static Reelrescue reelsOf(int[] first, int[] second) {
        Reelrescue x = new Reelrescue();
        int[][] both = {first, second};
        for (int reel = 0; reel < 2; reel++) {
            x.reel(Reelrescue.ACETATE, 1950, 0, NONE, 0);
            for (int i = 0; i < both[reel].length; i++) {
                x.frame(reel, i, both[reel][i], 0);
            }
        }
        return x;
    }

    private static void partners(Reelrescue x, int reel, int other, int... due) {
        for (int place = 0; place < due.length; place++) {
            check.is("pairOf(" + reel + ", " + place + ", " + other + ")", due[place], x.pairOf(reel, place, other));
        }
    }

    private static void tolerances() {
        Reelrescue x = new Reelrescue();
        check.is("tolerance at first", 40, x.tolerance(0));
        check.is("tolerance", 0, x.tolerance(2040));
        check.outOfRange("tolerance above", () -> x.tolerance(2041));
        check.outOfRange("tolerance below", () -> x.tolerance(-1));
        check.is("tolerance", 2040, x.tolerance(7));
    }

    private static void distances() {
        Reelrescue x = reelsOf(new int[] {0x14000014}, new int[] {0});
        check.is("the distance is just the tolerance", 1, x.align(0, 1));
        x.tolerance(39);
        check.is("the distance is above the tolerance", 0, x.align(0, 1));
        check.is("so they are left", NONE, x.pairOf(0, 0, 1));
        Reelrescue far = reelsOf(new int[] {-1}, new int[] {0});
        far.tolerance(1019);
        check.is("points of 255", 0, far.align(0, 1));
        far.tolerance(1020);
        check.is("points of 255", 1, far.align(1, 0));
        Reelrescue upper = new Reelrescue();
        upper.reel(0, 1950, 0, NONE, 0);
        upper.frame(0, 0, 0, -1);
        upper.frame(0, 1, 0, 0);
        upper.reel(0, 1950, 0, NONE, 0);
        upper.frame(1, 0, 0, 0);
        check.is("the upper points count", NONE, upper.pairOf(0, 0, 1));
        check.is("the upper points count", 0, upper.pairOf(0, 1, 1));
    }

    private static void laterPairsFirst() {
        Reelrescue x = reelsOf(new int[] {0, 0, 0}, new int[] {0, 0});
        check.is("as many pairs as can be", 2, x.align(0, 1));
        partners(x, 0, 1, NONE, 0, 1);
        partners(x, 1, 0, 1, 2);
    }

    private static void firstReelIsLeftFirst() {
        // One pair can be: 0 with 1 or 1 with 0. From the ends, the first reel's last one is left.
        Reelrescue x = reelsOf(new int[] {0, 100}, new int[] {100, 0});
        check.is("one pair", 1, x.align(0, 1));
        partners(x, 0, 1, 1, NONE);
        partners(x, 1, 0, 1, NONE);
        Reelrescue y = reelsOf(new int[] {0, 100}, new int[] {100, 200});
        check.is("the second one is left where it must be", 1, y.align(0, 1));
        partners(y, 0, 1, NONE, 0);
    }

    private static void ordersMatter() {
        Reelrescue x = reelsOf(new int[] {0, 60, 120, 180}, new int[] {180, 0, 120, 60});
        check.is("pairs in their order", 2, x.align(0, 1));
        partners(x, 0, 1, 1, 3, NONE, NONE);
        partners(x, 1, 0, NONE, 0, 2, NONE);
        // Being near is not handed on: 0 and 60 are both near 30, but not near one another.
        Reelrescue y = reelsOf(new int[] {0, 60}, new int[] {30});
        check.is("each with one at most", 1, y.align(0, 1));
        partners(y, 0, 1, NONE, 0);
    }

    private static void withItself() {
        Reelrescue x = reelsOf(new int[] {0, 0, 100}, new int[] {});
        check.is("with itself", 3, x.align(0, 0));
        partners(x, 0, 0, 0, 1, 2);
        check.is("with one without frames", 0, x.align(0, 1));
        check.is("one without frames with itself", 0, x.align(1, 1));
        partners(x, 0, 1, NONE, NONE, NONE);
    }

    private static void wholeReels() {
        Reelrescue x = new Reelrescue();
        x.reel(Reelrescue.ACETATE, 1950, 0, NONE, 0);
        for (int i = 0; i < 60; i++) {
            x.frame(0, i, i % 3 * 100, 0);
        }
        x.copy(0);
        check.is("all 60 frames", 60, x.align(0, 1));
        check.is("the first one", 0, x.pairOf(0, 0, 1));
        check.is("the last one", 59, x.pairOf(0, 59, 1));
    }

    private static void wrongs() {
        Reelrescue x = reelsOf(new int[] {0}, new int[] {0, 1});
        check.noSuch("align of no reel", () -> x.align(2, 0));
        check.noSuch("align with no reel", () -> x.align(0, -1));
        check.noSuch("pairOf of no reel", () -> x.pairOf(-1, 0, 1));
        check.noSuch("pairOf of no frame", () -> x.pairOf(0, 1, 1));
        check.noSuch("pairOf below", () -> x.pairOf(0, -1, 1));
        check.noSuch("pairOf with no reel", () -> x.pairOf(0, 0, 2));
        check.noSuch("alike of no reel", () -> x.alike(2, 0, 0, 0));
        check.noSuch("alike of no frame", () -> x.alike(0, 1, 1, 0));
        check.noSuch("alike with no reel", () -> x.alike(0, 0, 2, 0));
        check.noSuch("alike with no frame", () -> x.alike(0, 0, 1, 2));
        check.noSuch("alike below", () -> x.alike(0, 0, 1, -1));
        check.noSuch("alike below", () -> x.alike(0, -1, 1, 0));
    }

    private static void unreadable() {
        Reelrescue x = reelsOf(new int[] {0}, new int[] {0, 1});
        x.reel(Reelrescue.NITRATE, 1950, 0, NONE, 297);
        x.frame(2, 0, 0, 0);
        check.is("297 can be read", 1, x.align(0, 2));
        x.pass(1);
        check.notNow("the second one cannot be read", () -> x.align(0, 2));
        check.notNow("the first one cannot be read", () -> x.align(2, 0));
        check.notNow("the second one cannot be read", () -> x.pairOf(0, 0, 2));
        check.notNow("the first one cannot be read", () -> x.pairOf(2, 0, 0));
        check.noSuch("no frame of one that cannot be read", () -> x.pairOf(2, 1, 0));
        check.noSuch("no reel with one that cannot be read", () -> x.align(2, 3));
        check.isFloat("alike does not ask for that", 1.0f, x.alike(2, 0, 0, 0));
    }

    private static void alikeness() {
        Reelrescue x = new Reelrescue();
        x.reel(Reelrescue.ACETATE, 1950, 0, NONE, 0);
        x.frame(0, 0, 0, 0);
        x.frame(0, 1, -1, -1);
        x.frame(0, 2, 1, 0);
        x.frame(0, 3, 0x80000000, 0x7F000000);
        check.isFloat("the same", 1.0f, x.alike(0, 1, 0, 1));
        check.isFloat("as far as can be", 0.0f, x.alike(0, 0, 0, 1));
        check.isFloat("a distance of 1", 1.0f - 1.0f / 2040.0f, x.alike(0, 0, 0, 2));
        check.isFloat("a distance of 2039", 1.0f - 2039.0f / 2040.0f, x.alike(0, 1, 0, 2));
        check.isFloat("a distance of 255", 0.875f, x.alike(0, 3, 0, 0));
    }

    /** Small reels, aligned by trying every way in the order that the document tells. */
    private static void againstEveryWay() {
        long state = 12345;
        for (int round = 0; round < 300; round++) {
            int[][] both = new int[2][];
            for (int reel = 0; reel < 2; reel++) {
                state = state * 6364136223846793005L + 1442695040888963407L;
                both[reel] = new int[(int) (state >>> 40) % 7];
                for (int i = 0; i < both[reel].length; i++) {
                    state = state * 6364136223846793005L + 1442695040888963407L;
                    both[reel][i] = (int) (state >>> 40) % 6 * 30;
                }
            }
            Reelrescue x = reelsOf(both[0], both[1]);
            check.is("align in round " + round, most(both, both[0].length, both[1].length), x.align(0, 1));
            partners(x, 0, 1, expected(both));
        }
    }

    private static boolean near(int[][] both, int i, int j) {
        return Math.abs(both[0][i] - both[1][j]) <= 40;
    }

    private static int most(int[][] both, int i, int j) {
        if (i == 0 || j == 0) {
            return 0;
        }
        int left = Math.max(most(both, i - 1, j), most(both, i, j - 1));
        return near(both, i - 1, j - 1) ? Math.max(left, most(both, i - 1, j - 1) + 1) : left;
    }

    private static int[] expected(int[][] both) {
        int i = both[0].length;
        int j = both[1].length;
        int[] due = new int[i];
        java.util.Arrays.fill(due, NONE);
        while (i > 0 && j > 0) {
            int many = most(both, i, j);
            if (near(both, i - 1, j - 1) && most(both, i - 1, j - 1) + 1 == many) {
                i--;
                j--;
                due[i] = j;
            } else if (most(both, i - 1, j) == many) {
                i--;
            } else {
                j--;
            }
        }
        return due;
    }
}
