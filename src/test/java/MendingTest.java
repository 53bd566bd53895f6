/** Promises 23 to 28: mending of dirt, scratches and flicker, its limit, and taking it back. */
public final class MendingTest {
    private static final int NONE = Reelrescue.NONE;
    private static final int GAP = -1;
    private static final int UNLIKE = 3, CHANGES = 4;

    private static final Check check = new Check();

    public static void main(String[] args) {
        dirtOfPoints();
        dirtThresholds();
        dirtLooksAtFramesAsTheyWere();
        dirtAtProtectedFramesAndGaps();
        scratches();
        scratchIsAllOrNothing();
        scratchAtProtectedFramesAndGaps();
        wrongScratches();
        flickers();
        flickerHoldsPoints();
        flickerRounds();
        flickerAtProtectedFramesAndGaps();
        limits();
        takingBack();
        takingBackBelow();
        manyChanges();
        check.end();
    }

    /** An edition of frames of 8 points each, one code a frame; a row that is just GAP is left out. */
    private static Reelrescue editionOf(int[]... frames) {
        Reelrescue x = new Reelrescue();
        x.reel(Reelrescue.ACETATE, 1950, 0, NONE, 0);
        for (int i = 0; i < frames.length; i++) {
            if (frames[i][0] != GAP) {
                long points = pointsOf(frames[i]);
                x.frame(0, i, (int) points, (int) (points >>> 32));
            }
        }
        x.version(0, 1950);
        x.shot(0, 0, frames.length - 1);
        x.edition(0);
        x.limit(8);
        return x;
    }

    private static long pointsOf(int... points) {
        long frame = 0;
        for (int k = 7; k >= 0; k--) {
            frame = frame << 8 | points[k];
        }
        return frame;
    }

    private static int[] flat(int value) {
        int[] points = new int[8];
        java.util.Arrays.fill(points, value);
        return points;
    }

    private static int[] but(int[] points, int point, int value) {
        int[] other = points.clone();
        other[point] = value;
        return other;
    }

    private static void seen(Reelrescue x, int place, int... points) {
        check.is("seen(" + place + ")", pointsOf(points), x.seen(place));
    }

    private static void dirtOfPoints() {
        Reelrescue x = editionOf(flat(50), new int[] {90, 50, 10, 70, 71, 29, 30, 255}, flat(53));
        check.is("dirt", 1, x.dirt(20));
        seen(x, 1, 51, 50, 51, 70, 71, 51, 30, 51);
        check.is("unlike", 4, x.ofFrame(1, UNLIKE));
        check.is("changes", 1, x.ofFrame(1, CHANGES));
        seen(x, 2, flat(53));
        check.is("no more dirt", 0, x.dirt(20));
        check.is("the frame of the change", 1, x.takeBack(0));
        check.is("changes", 0, x.ofFrame(1, CHANGES));
    }

    private static void dirtThresholds() {
        check.outOfRange("threshold below", () -> editionOf(flat(0)).dirt(-1));
        check.outOfRange("threshold above", () -> editionOf(flat(0)).dirt(256));
        int[] low = flat(100);
        int[] high = flat(110);
        check.is("theirs differ by the threshold", 1, editionOf(low, but(low, 0, 130), high).dirt(10));
        check.is("theirs differ by more", 0, editionOf(low, but(low, 0, 130), high).dirt(9));
        check.is("unlike one of theirs by just the threshold", 0, editionOf(low, but(low, 0, 120), high).dirt(10));
        check.is("unlike by one more", 1, editionOf(low, but(low, 0, 121), high).dirt(10));
        check.is("below theirs by just the threshold", 0, editionOf(low, but(low, 7, 90), high).dirt(10));
        check.is("below theirs by one more", 1, editionOf(low, but(low, 7, 89), high).dirt(10));
        check.is("with the higher one ahead", 1, editionOf(high, but(low, 7, 89), low).dirt(10));
        check.is("a threshold of 0", 1, editionOf(low, but(low, 7, 101), low).dirt(0));
        check.is("a threshold of 255", 0, editionOf(flat(0), flat(255), flat(0)).dirt(255));
        check.is("a threshold of 254", 1, editionOf(flat(0), flat(255), flat(0)).dirt(254));
        Reelrescue x = editionOf(flat(100), flat(0), flat(103));
        x.dirt(3);
        seen(x, 1, flat(101));
    }

    private static void dirtLooksAtFramesAsTheyWere() {
        Reelrescue x = editionOf(flat(9), but(flat(9), 2, 200), flat(9), but(flat(9), 2, 200), flat(9));
        check.is("frames with a neighbour that was unlike", 3, x.dirt(0));
        seen(x, 1, flat(9));
        seen(x, 2, but(flat(9), 2, 200));
        seen(x, 3, flat(9));
        seen(x, 0, flat(9));
        check.is("changes by frames", 3, x.takeBack(2));
        check.is("changes by frames", 1, x.takeBack(0));
        check.is("changes by frames", 2, x.takeBack(1));
        check.is("two frames have no neighbours, both", 0, editionOf(flat(0), flat(200)).dirt(0));
        check.is("nor has one", 0, editionOf(flat(0)).dirt(0));
    }

    private static void dirtAtProtectedFramesAndGaps() {
        for (int place = 0; place < 3; place++) {
            Reelrescue x = editionOf(flat(9), but(flat(9), 2, 200), flat(9), flat(9));
            x.protect(place, true);
            check.is("dirt with a protected frame at " + place, 0, x.dirt(10));
            x.protect(place, false);
            check.is("dirt without it", 1, x.dirt(10));
        }
        Reelrescue x = editionOf(flat(9), but(flat(9), 2, 200), flat(9), flat(9));
        x.protect(3, true);
        check.is("dirt with a protected frame farther on", 1, x.dirt(10));
        int[] gap = {GAP};
        check.is("a gap ahead", 0, editionOf(gap, flat(200), flat(0)).dirt(10));
        check.is("a gap behind", 0, editionOf(flat(0), flat(200), gap).dirt(10));
        check.is("a gap between", 0, editionOf(flat(200), gap, flat(200)).dirt(10));
    }

    private static void scratches() {
        Reelrescue x = editionOf(new int[] {10, 41, 21, 0, 0, 50, 255, 3}, new int[] {0, 99, 0, 0, 0, 0, 200, 1});
        check.is("just the threshold above", 0, x.scratch(1, 0, 1, 20));
        check.is("more than the threshold above", 2, x.scratch(1, 0, 1, 19));
        seen(x, 0, 10, 15, 21, 0, 0, 50, 255, 3);
        seen(x, 1, 0, 0, 0, 0, 0, 0, 200, 1);
        check.is("the last point of a scratch", 2, x.scratch(6, 0, 1, 100));
        seen(x, 0, 10, 15, 21, 0, 0, 50, 26, 3);
        seen(x, 1, 0, 0, 0, 0, 0, 0, 0, 1);
        check.is("unlike", 2, x.ofFrame(0, UNLIKE));
        check.is("changes", 2, x.ofFrame(0, CHANGES));
        check.is("changes by frames", 1, x.takeBack(3));
        check.is("changes by frames", 0, x.takeBack(2));
        check.is("a point that is not above", 0, x.scratch(3, 0, 0, 0));
        check.is("not above the one ahead", 0, editionOf(new int[] {0, 0, 50, 40, 0, 0, 0, 0}).scratch(3, 0, 0, 0));
        check.is("not above the one behind", 0, editionOf(new int[] {0, 0, 0, 40, 50, 0, 0, 0}).scratch(3, 0, 0, 0));
        Reelrescue y = editionOf(flat(7), but(flat(7), 3, 8), flat(7));
        check.is("one above with a threshold of 0", 1, y.scratch(3, 1, 1, 0));
        check.is("as high as the points beside it", 0, y.scratch(3, 1, 1, 0));
        Reelrescue z = editionOf(new int[] {0, 0, 0, 255, 0, 0, 0, 0});
        check.is("a threshold of 255", 0, z.scratch(3, 0, 0, 255));
        check.is("a threshold of 254", 1, z.scratch(3, 0, 0, 254));
    }

    private static void scratchIsAllOrNothing() {
        Reelrescue x = editionOf(but(flat(7), 3, 90), but(flat(7), 3, 90), flat(7), but(flat(7), 3, 90));
        check.is("one frame has no scratch", 0, x.scratch(3, 0, 3, 20));
        check.is("nothing is done", 0, x.ofFrame(0, CHANGES));
        check.is("the frames that have it", 2, x.scratch(3, 0, 1, 20));
        check.is("the last one", 1, x.scratch(3, 3, 3, 20));
        check.is("the last one's change", 3, x.takeBack(2));
    }

    private static void scratchAtProtectedFramesAndGaps() {
        int[] gap = {GAP};
        Reelrescue x = editionOf(but(flat(7), 3, 90), gap, flat(7), but(flat(7), 3, 80));
        x.protect(2, true);
        check.is("but for protected ones and gaps", 2, x.scratch(3, 0, 3, 20));
        check.is("the gap has no change", 0, x.ofFrame(1, CHANGES));
        check.is("the protected one has no change", 0, x.ofFrame(2, CHANGES));
        x.takeBack(0);
        x.takeBack(1);
        x.protect(0, true);
        check.is("a protected one is not changed", 1, x.scratch(3, 0, 3, 20));
        seen(x, 0, but(flat(7), 3, 90));
        check.is("none but protected ones and gaps", 0, x.scratch(3, 0, 2, 20));
    }

    private static void wrongScratches() {
        check.noSuch("without an edition", () -> new Reelrescue().scratch(9, 0, 0, 300));
        Reelrescue x = editionOf(but(flat(7), 3, 90), but(flat(7), 3, 90));
        check.outOfRange("point 0", () -> x.scratch(0, 0, 1, 0));
        check.outOfRange("point 7", () -> x.scratch(7, 0, 1, 0));
        check.outOfRange("threshold below", () -> x.scratch(3, 0, 1, -1));
        check.outOfRange("threshold above", () -> x.scratch(3, 0, 1, 256));
        check.outOfRange("to ahead of from", () -> x.scratch(3, 1, 0, 0));
        check.noSuch("from below", () -> x.scratch(3, -1, 1, 0));
        check.noSuch("from above", () -> x.scratch(0, 2, 1, 0));
        check.noSuch("to above", () -> x.scratch(3, 0, 2, 999));
        check.noSuch("to below", () -> x.scratch(3, 0, -1, 0));
    }

    private static void flickers() {
        Reelrescue x = editionOf(flat(100), flat(40), flat(110), flat(90));
        // Frame 1: 840 less 320 is 520, 65 a point. Frame 2: 520 (40 and 90 as they were) less 880 is -360.
        check.is("flicker", 2, x.flicker());
        seen(x, 0, flat(100));
        seen(x, 1, flat(105));
        seen(x, 2, flat(65));
        seen(x, 3, flat(90));
        check.is("unlike", 8, x.ofFrame(1, UNLIKE));
        check.is("changes by frames", 1, x.takeBack(0));
        check.is("two frames have no neighbours, both", 0, editionOf(flat(0), flat(200)).flicker());
        check.is("nor has one", 0, editionOf(flat(0)).flicker());
        check.is("frames alike", 0, editionOf(flat(5), flat(5), flat(5)).flicker());
    }

    private static void flickerHoldsPoints() {
        int[] mixed = {0, 30, 60, 250, 255, 100, 5, 20};
        Reelrescue up = editionOf(flat(200), mixed, flat(200));
        check.is("flicker", 1, up.flicker());
        seen(up, 1, 110, 140, 170, 255, 255, 210, 115, 130);
        check.is("a point that stays at 255 is not unlike", 7, up.ofFrame(1, UNLIKE));
        Reelrescue down = editionOf(flat(20), mixed, flat(20));
        check.is("flicker", 1, down.flicker());
        seen(down, 1, 0, 0, 0, 180, 185, 30, 0, 0);
        check.is("a point that stays at 0 is not unlike", 7, down.ofFrame(1, UNLIKE));
    }

    private static void flickerRounds() {
        int[] eight = but(flat(100), 0, 108);
        check.is("7 more are none a point", 0, editionOf(flat(100), but(flat(100), 0, 93), flat(100)).flicker());
        check.is("7 less are none a point", 0, editionOf(flat(100), but(flat(100), 0, 107), flat(100)).flicker());
        Reelrescue less = editionOf(flat(100), eight, flat(100));
        check.is("8 less are one a point", 1, less.flicker());
        seen(less, 1, but(flat(99), 0, 107));
        Reelrescue toward = editionOf(flat(100), but(flat(100), 0, 115), flat(100));
        check.is("15 less are rounded toward 0", 1, toward.flicker());
        seen(toward, 1, but(flat(99), 0, 114));
        // 800 and 815 divided by 2 are 807, 7 more.
        Reelrescue half = editionOf(flat(100), flat(100), but(flat(100), 0, 115));
        check.is("theirs divided by 2 are rounded down", 0, half.flicker());
        Reelrescue whole = editionOf(flat(100), flat(100), but(flat(100), 0, 116));
        check.is("8 more are one a point", 1, whole.flicker());
        seen(whole, 1, flat(101));
    }

    private static void flickerAtProtectedFramesAndGaps() {
        for (int place = 0; place < 3; place++) {
            Reelrescue x = editionOf(flat(9), flat(90), flat(9));
            x.protect(place, true);
            check.is("flicker with a protected frame at " + place, 0, x.flicker());
            x.protect(place, false);
            check.is("flicker without it", 1, x.flicker());
        }
        int[] gap = {GAP};
        check.is("a gap ahead", 0, editionOf(gap, flat(200), flat(0)).flicker());
        check.is("a gap behind", 0, editionOf(flat(0), flat(200), gap).flicker());
        check.is("a gap between", 0, editionOf(flat(200), gap, flat(200)).flicker());
    }

    private static void limits() {
        Reelrescue x = new Reelrescue();
        check.is("limit at first", 4, x.limit(0));
        check.is("limit", 0, x.limit(8));
        check.outOfRange("limit below", () -> x.limit(-1));
        check.outOfRange("limit above", () -> x.limit(9));
        check.is("limit", 8, x.limit(8));
        int[] five = {90, 90, 90, 90, 90, 9, 9, 9};
        int[] four = {90, 90, 90, 90, 9, 9, 9, 9};
        Reelrescue y = editionOf(flat(9), five, flat(9), flat(9), four, flat(9));
        y.limit(4);
        check.is("each frame by itself", 1, y.dirt(20));
        seen(y, 1, five);
        seen(y, 4, flat(9));
        check.is("a scratch would be the fifth point", 0, editionScratchedWithFour().scratch(6, 0, 0, 0));
        check.is("the same points again are not more", 1, editionScratchedWithFour().scratch(2, 0, 0, 0));
        Reelrescue z = editionOf(but(flat(9), 3, 50), but(flat(9), 3, 60));
        z.limit(0);
        check.is("a limit of 0", 0, z.scratch(3, 0, 1, 20));
        z.limit(1);
        check.is("a limit of 1", 2, z.scratch(3, 0, 1, 20));
        z.limit(0);
        check.is("what is mended stays", 1, z.ofFrame(0, UNLIKE));
        check.is("what is mended can be taken back", 0, z.takeBack(0));
        check.is("flicker has a limit too", 0, limitedFlicker(7));
        check.is("flicker has a limit too", 1, limitedFlicker(8));
    }

    private static Reelrescue editionScratchedWithFour() {
        // Point 2 is above those beside it again, when point 3 was mended.
        Reelrescue x = editionOf(new int[] {0, 200, 150, 100, 0, 50, 40, 0});
        x.limit(4);
        for (int point : new int[] {1, 2, 3, 5}) {
            check.is("scratch", 1, x.scratch(point, 0, 0, 0));
        }
        check.is("four points are unlike", 4, x.ofFrame(0, UNLIKE));
        seen(x, 0, 0, 75, 87, 43, 0, 20, 40, 0);
        return x;
    }

    private static int limitedFlicker(int limit) {
        Reelrescue x = editionOf(flat(9), flat(90), flat(9));
        x.limit(limit);
        return x.flicker();
    }

    private static void takingBack() {
        Reelrescue x = editionOf(flat(9), but(flat(9), 2, 200), flat(9));
        check.noSuch("no change yet", () -> x.takeBack(0));
        x.dirt(10);
        check.noSuch("change below", () -> x.takeBack(-1));
        check.noSuch("change above", () -> x.takeBack(1));
        check.is("takeBack", 1, x.takeBack(0));
        seen(x, 1, but(flat(9), 2, 200));
        check.is("unlike", 0, x.ofFrame(1, UNLIKE));
        check.is("changes", 0, x.ofFrame(1, CHANGES));
        check.notNow("taken back already", () -> x.takeBack(0));
        check.is("dirt again", 1, x.dirt(10));
        check.notNow("taken back already", () -> x.takeBack(0));
        x.protect(1, true);
        check.is("a change of a frame that is protected since", 1, x.takeBack(1));
        check.noSuch("no change more", () -> x.takeBack(2));
    }

    private static void takingBackBelow() {
        int[] scratched = {9, 90, 9, 9, 80, 9, 9, 9};
        Reelrescue x = editionOf(scratched, scratched);
        check.is("changes 0 and 1", 2, x.scratch(1, 0, 1, 0));
        check.is("change 2", 1, x.scratch(4, 1, 1, 0));
        check.notNow("a later one is in the frame", () -> x.takeBack(1));
        check.is("none is in the other frame", 0, x.takeBack(0));
        check.is("the later one", 1, x.takeBack(2));
        seen(x, 1, 9, 9, 9, 9, 80, 9, 9, 9);
        check.is("change 3", 1, x.scratch(4, 1, 1, 0));
        check.notNow("a later one is in the frame again", () -> x.takeBack(1));
        check.notNow("taken back already", () -> x.takeBack(2));
        check.is("changes", 2, x.ofFrame(1, CHANGES));
        check.is("the later one", 1, x.takeBack(3));
        check.is("now the first one", 1, x.takeBack(1));
        seen(x, 1, scratched);
        check.is("changes", 0, x.ofFrame(1, CHANGES));
        for (int change = 0; change < 4; change++) {
            int back = change;
            check.notNow("all are taken back", () -> x.takeBack(back));
        }
    }

    private static void manyChanges() {
        Reelrescue x = new Reelrescue();
        x.reel(Reelrescue.ACETATE, 1950, 0, NONE, 0);
        for (int code = 0; code < 12; code++) {
            int points = code % 2 * 0x64646464;
            x.frame(0, code, points, points);
        }
        x.version(0, 1950);
        for (int shot = 0; shot < 10; shot++) {
            x.shot(0, 0, 11);
        }
        x.edition(0);
        x.limit(8);
        // Dark and bright frames change places each time, but for those near the ends.
        check.is("every frame with neighbours", 118, x.flicker());
        int made = 118;
        for (int round = 1; round < 150; round++) {
            made += x.flicker();
        }
        int inFrames = 0;
        for (int place = 0; place < 120; place++) {
            inFrames += x.ofFrame(place, CHANGES);
        }
        check.is("all changes are in frames", made, inFrames);
        check.is("one a round in the middle", 150, x.ofFrame(60, CHANGES));
        int behind = made;
        check.noSuch("a change behind the last one", () -> x.takeBack(behind));
        check.notNow("the first change of a frame", () -> x.takeBack(59));
        long latest = x.seen(60);
        int back = 0;
        while (x.ofFrame(60, CHANGES) == 150 && back < 118) {
            back++;
            x.takeBack(made - back);
        }
        check.is("changes can be taken back from the last one on", 149, x.ofFrame(60, CHANGES));
        check.is("the frame is another one then", true, latest != x.seen(60));
    }
}
