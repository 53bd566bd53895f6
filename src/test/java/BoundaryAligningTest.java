/** The boundary cases of promises 8 to 11 and of the terms that they use, each alone. */
public final class BoundaryAligningTest {
    private static final int NONE = Reelrescue.NONE;
    private static final int[] BLACK = World.flat(0);
    private static final int[] WHITE = World.flat(255);

    private static final Cases cases = new Cases();

    public static void main(String[] args) {
        tolerances();
        nearEnough();
        emptyAndFull();
        eachWithOneAtMost();
        fromTheEndsBackward();
        alignArguments();
        pairArguments();
        unreadable();
        alikeness();
        alikeArguments();
        cases.end();
    }

    /** Reels 0 and 1 of frames whose first points are these; all others are 0. */
    private static Cases.Use reelsOf(int[] first, int[] second) {
        return x -> {
            for (int[] points : new int[][] {first, second}) {
                int reel = World.reel(x, 0);
                for (int code = 0; code < points.length; code++) {
                    x.frame(reel, code, points[code], 0);
                }
            }
        };
    }

    private static Cases.Use framesOf(int[] first, int[] second) {
        return x -> {
            World.reel(x, 0);
            World.frame(x, 0, 0, first);
            World.reel(x, 0);
            World.frame(x, 1, 0, second);
        };
    }

    private static int[] row(int... points) {
        return points;
    }

    private static void tolerances() {
        cases.range("Promise 8, tolerance: 0 to 2040", 0, 2040, Cases.OUT_OF_RANGE, World::standard,
            (x, tolerance) -> x.tolerance(tolerance));
        cases.answers("Promise 8, the tolerance before: 40 at first", 40, World::empty, x -> x.tolerance(0));
        cases.answers("Promise 8, the tolerance before: 0", 0, x -> x.tolerance(0), x -> x.tolerance(1));
        cases.answers("Promise 8, the tolerance before: 2040", 2040, x -> x.tolerance(2040), x -> x.tolerance(0));
        cases.answers("Promise 8, the tolerance before: the same again", 7, x -> x.tolerance(7), x -> x.tolerance(7));
    }

    private static void near(String name, int due, int tolerance, int[] first, int[] second) {
        cases.answers("Aligning, distance at most the tolerance: " + name, due, World.then(framesOf(first, second),
            x -> x.tolerance(tolerance)), x -> x.align(0, 1));
    }

    private static void nearEnough() {
        int[] far = World.but(BLACK, 0, 40);
        cases.answers("Aligning, 40 at first: a distance of 40", 1, framesOf(BLACK, far), x -> x.align(0, 1));
        cases.answers("Aligning, 40 at first: a distance of 41", 0, framesOf(BLACK, World.but(far, 7, 1)),
            x -> x.align(0, 1));
        near("just the tolerance", 1, 40, BLACK, far);
        near("1 more than the tolerance", 0, 39, BLACK, far);
        near("the first one is the brighter one", 0, 39, far, BLACK);
        near("none, and a tolerance of 0", 1, 0, far, far);
        near("1, and a tolerance of 0", 0, 0, BLACK, World.but(BLACK, 7, 1));
        near("the greatest one there is", 1, 2040, BLACK, WHITE);
        near("1 more than a tolerance of 2039", 0, 2039, WHITE, BLACK);
        near("differences do not make up for one another", 0, 1, World.but(BLACK, 0, 1), World.but(BLACK, 1, 1));
        near("a sum of differences", 1, 2, World.but(BLACK, 0, 1), World.but(BLACK, 1, 1));
        for (int point = 0; point < 8; point++) {
            near("point " + point + " counts", 0, 254, BLACK, World.but(BLACK, point, 255));
        }
    }

    private static void emptyAndFull() {
        Cases.Use one = reelsOf(row(), row(1));
        cases.answers("Aligning: neither has frames", 0, reelsOf(row(), row()), x -> x.align(0, 1));
        cases.answers("Aligning: the first one has no frames", 0, one, x -> x.align(0, 1));
        cases.answers("Aligning: the second one has no frames", 0, one, x -> x.align(1, 0));
        cases.answers("Promise 10, NONE: the other one has no frames", NONE, one, x -> x.pairOf(1, 0, 0));
        cases.answers("Aligning: a reel without frames with itself", 0, one, x -> x.align(0, 0));
        cases.answers("Aligning: a reel with itself", 1, one, x -> x.align(1, 1));
        Cases.Use sixty = World.then(World.codesFrom0(60), x -> {
            x.copy(0);
            x.tolerance(0);
        });
        cases.answers("Aligning: 60 frames with 60", 60, sixty, x -> x.align(0, 1));
        cases.answers("Promise 10: the first of 60", 0, sixty, x -> x.pairOf(0, 0, 1));
        cases.answers("Promise 10: the last of 60", 59, sixty, x -> x.pairOf(0, 59, 1));
        cases.answers("Aligning: 60 frames, all alike, with 1", 1, World.then(sixty, x -> {
            x.tolerance(2040);
            World.reel(x, 0, 5);
        }), x -> x.align(0, 2));
        cases.answers("Promise 10: the last of 60 alike is paired with the only one", 0, World.then(sixty, x -> {
            x.tolerance(2040);
            World.reel(x, 0, 5);
        }), x -> x.pairOf(0, 59, 2));
        cases.answers("Promise 10, NONE: the last but one of 60 alike is left", NONE, World.then(sixty, x -> {
            x.tolerance(2040);
            World.reel(x, 0, 5);
        }), x -> x.pairOf(0, 58, 2));
        cases.answers("Aligning: the twelfth reel", 2, World.twelveReels(), x -> x.align(11, 10));
    }

    private static void eachWithOneAtMost() {
        cases.answers("Aligning, each with one at most: of the first one", 1, reelsOf(row(0, 0), row(0)),
            x -> x.align(0, 1));
        cases.answers("Aligning, each with one at most: of the second one", 1, reelsOf(row(0), row(0, 0)),
            x -> x.align(0, 1));
        cases.answers("Aligning, in their order in both", 1, reelsOf(row(0, 100), row(100, 0)), x -> x.align(0, 1));
        cases.answers("Aligning, as many pairs as can be: not the last ones", 2,
            reelsOf(row(0, 100, 200), row(200, 0, 100)), x -> x.align(0, 1));
        cases.answers("Promise 10: what as many pairs as can be leave", NONE,
            reelsOf(row(0, 100, 200), row(200, 0, 100)), x -> x.pairOf(0, 2, 1));
    }

    private static void fromTheEndsBackward() {
        Cases.Use three = reelsOf(row(0, 0, 0), row(0, 0));
        cases.answers("Backward: the last frames are paired", 1, three, x -> x.pairOf(0, 2, 1));
        cases.answers("Backward: then those ahead of them", 0, three, x -> x.pairOf(0, 1, 1));
        cases.answers("Backward: the first one is left", NONE, three, x -> x.pairOf(0, 0, 1));
        cases.answers("Backward: the first frame of the second one is left", NONE, reelsOf(row(0), row(0, 0)),
            x -> x.pairOf(1, 0, 0));
        Cases.Use either = reelsOf(row(0, 100), row(100, 0));
        cases.answers("Backward: the last one of the first reel is left", NONE, either, x -> x.pairOf(0, 1, 1));
        cases.answers("Backward: so the one ahead of it is paired", 1, either, x -> x.pairOf(0, 0, 1));
        cases.answers("Backward: it is the first reel of the call", NONE, either, x -> x.pairOf(1, 1, 0));
        Cases.Use second = reelsOf(row(0, 100), row(100, 200));
        cases.answers("Backward: otherwise the last one of the second one is left", 0, second, x -> x.pairOf(0, 1, 1));
        cases.answers("Backward: and it has no pair", NONE, second, x -> x.pairOf(1, 1, 0));
        // 30 is near 0 and near 60: with either of them there is one pair, and the last one goes ahead.
        cases.answers("Backward: paired if they can be, not with the nearest", 0, reelsOf(row(30, 55), row(30)),
            x -> x.pairOf(0, 1, 1));
    }

    private static void alignArguments() {
        cases.range("Promise 9, reel: its number", 0, 1, Cases.NO_SUCH, x -> {
            World.reel(x, 0, 1, 2);
            World.reel(x, 0, 1, 2);
        }, (x, reel) -> x.align(reel, 0));
        cases.range("Promise 9, other: its number", 0, 1, Cases.NO_SUCH, x -> {
            World.reel(x, 0, 1, 2);
            World.reel(x, 0, 1, 2);
        }, (x, other) -> x.align(0, other));
        cases.refuses("Promise 9: no reel at all", Cases.NO_SUCH, World::empty, x -> x.align(0, 0));
        cases.refuses("Promise 9: no reel goes ahead of one that cannot be read", Cases.NO_SUCH, World::standard,
            x -> x.align(2, 3));
        cases.refuses("Promise 9: no reel, with one that cannot be read", Cases.NO_SUCH, World::standard,
            x -> x.align(3, 2));
    }

    private static void pairArguments() {
        Cases.Use world = World::standard;
        cases.range("Promise 10, reel: its number", 0, 1, Cases.NO_SUCH, x -> {
            World.reel(x, 0, 1, 2);
            World.reel(x, 0, 1, 2);
        }, (x, reel) -> x.pairOf(reel, 0, 0));
        cases.range("Promise 10, other: its number", 0, 1, Cases.NO_SUCH, x -> {
            World.reel(x, 0, 1, 2);
            World.reel(x, 0, 1, 2);
        }, (x, other) -> x.pairOf(0, 0, other));
        cases.range("Promise 10, place: that of the frame", 0, 4, Cases.NO_SUCH, world, (x, place) -> x.pairOf(0, place, 1));
        cases.range("Promise 10, place: of the shorter one", 0, 2, Cases.NO_SUCH, world, (x, place) -> x.pairOf(1, place, 0));
        cases.refuses("Promise 10: no reel at all", Cases.NO_SUCH, World::empty, x -> x.pairOf(0, 0, 0));
        cases.refuses("Promise 10: a reel without frames", Cases.NO_SUCH, reelsOf(row(), row(1)), x -> x.pairOf(0, 0, 1));
        cases.refuses("Promise 10: no frame goes ahead of cannot be read", Cases.NO_SUCH, world, x -> x.pairOf(2, 1, 0));
        cases.refuses("Promise 10: no frame, with one that cannot be read", Cases.NO_SUCH, world, x -> x.pairOf(0, 5, 2));
        cases.refuses("Promise 10: no reel goes ahead of cannot be read", Cases.NO_SUCH, world, x -> x.pairOf(2, 0, 3));
    }

    private static void unreadable() {
        Cases.Use at299 = x -> {
            World.reel(x, 0, 1);
            World.reel(x, 299, 1);
        };
        Cases.Use at300 = World.then(at299, x -> {
            x.cold(1, true);
            x.pass(1);
        });
        cases.answers("Promise 9: decay 299 can be read", 1, at299, x -> x.align(1, 0));
        cases.answers("Promise 9: decay 299 of the other one can be read", 1, at299, x -> x.align(0, 1));
        cases.answers("Promise 10: decay 299 can be read", 0, at299, x -> x.pairOf(1, 0, 0));
        cases.answers("Promise 10: decay 299 of the other one can be read", 0, at299, x -> x.pairOf(0, 0, 1));
        cases.refuses("Promise 9: decay 300 cannot be read", Cases.NOT_NOW, at300, x -> x.align(1, 0));
        cases.refuses("Promise 9: decay 300 of the other one cannot be read", Cases.NOT_NOW, at300, x -> x.align(0, 1));
        cases.refuses("Promise 9: with itself, which cannot be read", Cases.NOT_NOW, at300, x -> x.align(1, 1));
        cases.refuses("Promise 10: decay 300 cannot be read", Cases.NOT_NOW, at300, x -> x.pairOf(1, 0, 0));
        cases.refuses("Promise 10: decay 300 of the other one cannot be read", Cases.NOT_NOW, at300,
            x -> x.pairOf(0, 0, 1));
        cases.isFloat("Promise 11: a reel that cannot be read", 1.0f, at300, x -> x.alike(1, 0, 0, 0));
    }

    private static void alike(String name, float due, int[] first, int[] second) {
        cases.isFloat("Promise 11: " + name, due, framesOf(first, second), x -> x.alike(0, 0, 1, 0));
    }

    private static void alikeness() {
        alike("the same", 1.0f, World.but(BLACK, 3, 77), World.but(BLACK, 3, 77));
        alike("the farthest", 0.0f, BLACK, WHITE);
        alike("the farthest, the first one being brighter", 0.0f, WHITE, BLACK);
        alike("a distance of 1", 1.0f - 1.0f / 2040.0f, BLACK, World.but(BLACK, 7, 1));
        alike("a distance of 2039", 1.0f - 2039.0f / 2040.0f, WHITE, World.but(BLACK, 0, 1));
        alike("one point as far as can be", 0.875f, BLACK, World.but(BLACK, 7, 255));
        alike("a half", 0.5f, BLACK, row(255, 255, 255, 255, 0, 0, 0, 0));
        cases.isFloat("Promise 11: a frame with itself", 1.0f, framesOf(WHITE, BLACK), x -> x.alike(0, 0, 0, 0));
    }

    private static void alikeArguments() {
        Cases.Use world = World::standard;
        cases.range("Promise 11, reel: its number", 0, 2, Cases.NO_SUCH, world, (x, reel) -> x.alike(reel, 0, 0, 0));
        cases.range("Promise 11, other: its number", 0, 2, Cases.NO_SUCH, world, (x, other) -> x.alike(0, 0, other, 0));
        cases.range("Promise 11, place: that of the frame", 0, 4, Cases.NO_SUCH, world,
            (x, place) -> x.alike(0, place, 1, 0));
        cases.range("Promise 11, there: that of the other frame", 0, 2, Cases.NO_SUCH, world,
            (x, there) -> x.alike(0, 0, 1, there));
        cases.refuses("Promise 11: no reel at all", Cases.NO_SUCH, World::empty, x -> x.alike(0, 0, 0, 0));
        cases.refuses("Promise 11: the other one has no frames", Cases.NO_SUCH, reelsOf(row(1), row()),
            x -> x.alike(0, 0, 1, 0));
        cases.isFloat("Promise 11: the first and the last of 60 frames", 1.0f - 59.0f / 2040.0f, World.codesFrom0(60),
            x -> x.alike(0, 0, 0, 59));
        cases.isFloat("Promise 11: the last of 60 frames", 1.0f, World.codesFrom0(60), x -> x.alike(0, 59, 0, 59));
    }
}
