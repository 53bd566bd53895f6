/** The boundary cases of promises 25 to 28 and of the terms that they use, each alone. */
public final class BoundaryMendingTest {
    private static final int[] NINE = World.flat(9);
    private static final int[] HUNDRED = World.flat(100);
    private static final int[] SCRATCHED = World.but(NINE, 3, 90);
    private static final int UNLIKE = 3, CHANGES = 4;

    private static final Cases cases = new Cases();

    public static void main(String[] args) {
        dirtArguments();
        dirtThresholds();
        dirtBecomes();
        dirtAndNeighbours();
        scratchArguments();
        scratchThresholds();
        scratchBecomes();
        scratchFromTo();
        scratchAndProtected();
        flickerDifferences();
        flickerEnds();
        flickerAndNeighbours();
        limitsOfDirt();
        limitsOfScratches();
        limitsOfFlicker();
        takeBackArguments();
        takingBack();
        lastCall();
        cases.end();
    }

    private static int[] row(int... points) {
        return points;
    }

    // ---- dirt

    private static void dirtArguments() {
        cases.range("Promise 25, threshold: 0 to 255", 0, 255, Cases.OUT_OF_RANGE, World::standard,
            (x, threshold) -> x.dirt(threshold));
        cases.refuses("Promise 25: out of range without an edition", Cases.OUT_OF_RANGE, World::empty, x -> x.dirt(256));
        cases.answers("Promise 25: without an edition", 0, World::empty, x -> x.dirt(0));
        cases.answers("Promise 25: an edition without frames", 0, World.editionOf(), x -> x.dirt(0));
    }

    /** How many changes dirt makes of three frames that are alike but for a point. */
    private static void dirt(String name, int due, int threshold, int ahead, int here, int behind) {
        cases.answers("Dirt: " + name, due, World.editionOf(World.but(HUNDRED, 2, ahead), World.but(HUNDRED, 2, here),
            World.but(HUNDRED, 2, behind)), x -> x.dirt(threshold));
    }

    private static void dirtThresholds() {
        dirt("above both by just the threshold", 0, 20, 100, 120, 100);
        dirt("above both by more than the threshold", 1, 20, 100, 121, 100);
        dirt("below both by just the threshold", 0, 20, 100, 80, 100);
        dirt("below both by more than the threshold", 1, 20, 100, 79, 100);
        dirt("by more than the threshold unlike the one ahead alone", 0, 20, 100, 121, 101);
        dirt("by more than the threshold unlike the one behind alone", 0, 20, 101, 121, 100);
        dirt("below, unlike the one ahead alone", 0, 20, 101, 80, 100);
        dirt("below, unlike the one behind alone", 0, 20, 100, 80, 101);
        dirt("theirs differ by just the threshold", 1, 20, 100, 150, 120);
        dirt("theirs differ by more than the threshold", 0, 20, 100, 150, 121);
        dirt("theirs differ by just the threshold, the one ahead is above", 1, 20, 120, 150, 100);
        dirt("theirs differ by more than the threshold, the one ahead is above", 0, 20, 121, 150, 100);
        dirt("between theirs", 0, 20, 100, 150, 200);
        dirt("a threshold of 0, unlike by 1", 1, 0, 100, 101, 100);
        dirt("a threshold of 0, alike", 0, 0, 100, 100, 100);
        dirt("a threshold of 0, theirs differ by 1", 0, 0, 100, 150, 101);
        dirt("a threshold of 255, as unlike as can be", 0, 255, 0, 255, 0);
        dirt("a threshold of 254, as unlike as can be", 1, 254, 0, 255, 0);
        dirt("a threshold of 254, as far below as can be", 1, 254, 255, 0, 255);
    }

    private static void dirtMends(String name, int due, int threshold, int ahead, int here, int behind) {
        cases.answers("Dirt becomes: " + name, World.points(World.but(HUNDRED, 2, due)), World.then(World.editionOf(
            World.but(HUNDRED, 2, ahead), World.but(HUNDRED, 2, here), World.but(HUNDRED, 2, behind)),
            x -> x.dirt(threshold)), x -> x.seen(1));
    }

    private static void dirtBecomes() {
        dirtMends("an even sum divided by 2", 102, 20, 100, 200, 104);
        dirtMends("an odd sum divided by 2, rounded down", 101, 20, 100, 200, 103);
        dirtMends("an odd sum, the one ahead is above", 101, 20, 103, 0, 100);
        dirtMends("the sum of 0 and 1", 0, 20, 0, 200, 1);
        dirtMends("the sum of 255 and 254", 254, 20, 255, 0, 254);
        dirtMends("the greatest sum", 255, 20, 255, 0, 255);
        dirtMends("the least sum", 0, 20, 0, 255, 0);
        for (int point = 0; point < 8; point++) {
            int[] dirty = World.but(HUNDRED, point, 255);
            cases.answers("Dirt becomes: point " + point, World.points(HUNDRED), World.then(World.editionOf(HUNDRED,
                dirty, HUNDRED), x -> x.dirt(20)), x -> x.seen(1));
        }
        Cases.Use most = World.then(World.editionOf(HUNDRED, World.flat(0), HUNDRED), x -> {
            x.limit(8);
            x.dirt(20);
        });
        cases.answers("Dirt becomes: all 8 points", World.points(HUNDRED), most, x -> x.seen(1));
        cases.answers("Dirt: all 8 points of a frame are one change", 1, most, x -> x.ofFrame(1, CHANGES));
        cases.answers("Dirt becomes: a point that is none stays", World.points(World.but(HUNDRED, 7, 120)), World.then(
            World.editionOf(HUNDRED, World.but(World.but(HUNDRED, 7, 120), 0, 121), HUNDRED), x -> x.dirt(20)),
            x -> x.seen(1));
    }

    private static void dirtAndNeighbours() {
        int[] dirty = World.but(NINE, 2, 200);
        Cases.Use five = World.editionOf(NINE, dirty, NINE, dirty, NINE);
        cases.answers("Dirt: one frame has no neighbours", 0, World.editionOf(dirty), x -> x.dirt(0));
        cases.answers("Dirt: two frames have not both neighbours", 0, World.editionOf(dirty, NINE), x -> x.dirt(0));
        cases.answers("Dirt: the first frame has not both neighbours", 0, World.editionOf(dirty, NINE, NINE),
            x -> x.dirt(20));
        cases.answers("Dirt: the last frame has not both neighbours", 0, World.editionOf(NINE, NINE, dirty),
            x -> x.dirt(20));
        cases.answers("Dirt: the last frame but one has both", 1, World.editionOf(NINE, NINE, dirty, NINE), x -> x.dirt(20));
        cases.answers("Dirt: neighbours as they were ahead of the mending", 3, five, x -> x.dirt(20));
        cases.answers("Dirt: a frame between two that were unlike it", World.points(dirty), World.then(five,
            x -> x.dirt(20)), x -> x.seen(2));
        cases.answers("Dirt: changes are numbered by frames, the first one", 1, World.then(five, x -> x.dirt(20)),
            x -> x.takeBack(0));
        cases.answers("Dirt: changes are numbered by frames, the last one", 3, World.then(five, x -> x.dirt(20)),
            x -> x.takeBack(2));
        Cases.Use mendedAhead = World.then(World.editionOf(SCRATCHED, SCRATCHED, NINE), x -> x.scratch(3, 0, 0, 20));
        cases.answers("Dirt: the neighbour ahead as it was mended before", 1, mendedAhead, x -> x.dirt(20));
        Cases.Use mendedBehind = World.then(World.editionOf(NINE, SCRATCHED, SCRATCHED), x -> x.scratch(3, 2, 2, 20));
        cases.answers("Dirt: the neighbour behind as it was mended before", 1, mendedBehind, x -> x.dirt(20));
        cases.answers("Dirt: mended again, there is none", 0, World.then(World.editionOf(NINE, dirty, NINE),
            x -> x.dirt(20)), x -> x.dirt(20));
        out("Dirt", x -> x.dirt(20));
    }

    /** That a frame is neither mended nor looked at as a neighbour; mends makes one change of the frame between. */
    private static void out(String mending, Cases.Answer mends) {
        int[] faulty = World.but(NINE, 2, 200);
        int[][] frames = {NINE, faulty, NINE};
        String[] where = {"ahead", "itself", "behind"};
        for (int i = 0; i < 3; i++) {
            int place = i;
            int[][] withGap = frames.clone();
            withGap[place] = World.GAP;
            cases.answers(mending + ": PROTECTED, " + where[i], 0, World.then(World.editionOf(frames),
                x -> x.protect(place, true)), mends);
            cases.answers(mending + ": not PROTECTED any more, " + where[i], 1, World.then(World.editionOf(frames), x -> {
                x.protect(place, true);
                x.protect(place, false);
            }), mends);
            cases.answers(mending + ": a GAP, " + where[i], 0, World.editionOf(withGap), mends);
        }
        cases.answers(mending + ": not the frame ahead of a PROTECTED one", 0, World.then(World.editionOf(NINE, NINE,
            faulty, NINE), x -> x.protect(1, true)), mends);
        cases.answers(mending + ": not the frame behind a PROTECTED one", 0, World.then(World.editionOf(NINE, faulty, NINE,
            NINE), x -> x.protect(2, true)), mends);
        cases.answers(mending + ": not the frame ahead of a GAP", 0, World.editionOf(NINE, World.GAP, faulty, NINE), mends);
        cases.answers(mending + ": not the frame behind a GAP", 0, World.editionOf(NINE, faulty, World.GAP, NINE), mends);
        cases.answers(mending + ": PROTECTED, farther on", 1, World.then(World.editionOf(NINE, faulty, NINE, NINE),
            x -> x.protect(3, true)), mends);
        cases.answers(mending + ": a GAP, farther on", 1, World.editionOf(NINE, faulty, NINE, World.GAP), mends);
        cases.answers(mending + ": all of them PROTECTED", 0, World.then(World.editionOf(frames), x -> {
            for (int place = 0; place < 3; place++) {
                x.protect(place, true);
            }
        }), mends);
        cases.answers(mending + ": all of them GAPs", 0, World.editionOf(World.GAP, World.GAP, World.GAP), mends);
        cases.answers(mending + ": a GAP stays of points 0", 0L, World.then(World.editionOf(faulty, World.GAP, faulty),
            x -> mends.of(x)), x -> x.seen(1));
    }

    // ---- scratches

    private static void scratchArguments() {
        Cases.Use world = World::standard;
        cases.range("Promise 26, point: 1 to 6", 1, 6, Cases.OUT_OF_RANGE, world, (x, point) -> x.scratch(point, 0, 5, 0));
        cases.range("Promise 26, threshold: 0 to 255", 0, 255, Cases.OUT_OF_RANGE, world,
            (x, threshold) -> x.scratch(3, 0, 5, threshold));
        cases.range("Promise 26, from: the place of the first frame", 0, 5, Cases.NO_SUCH, world,
            (x, from) -> x.scratch(3, from, 5, 0));
        cases.range("Promise 26, to: that of the last frame", 0, 5, Cases.NO_SUCH, world, (x, to) -> x.scratch(3, 0, to, 0));
        cases.refuses("Promise 26, to: 1 ahead of from", Cases.OUT_OF_RANGE, world, x -> x.scratch(3, 5, 4, 0));
        cases.refuses("Promise 26, to: far ahead of from", Cases.OUT_OF_RANGE, world, x -> x.scratch(3, 5, 0, 0));
        cases.refuses("Promise 26: neither from nor to", Cases.NO_SUCH, world, x -> x.scratch(3, 7, 6, 0));
        cases.refuses("Promise 26: no edition", Cases.NO_SUCH, World.versionOf(0, 0), x -> x.scratch(3, 0, 0, 0));
        cases.refuses("Promise 26: an edition without frames", Cases.NO_SUCH, World.editionOf(), x -> x.scratch(3, 0, 0, 0));
        cases.refuses("Promise 26: no frame goes ahead of no such point", Cases.NO_SUCH, world, x -> x.scratch(0, 0, 6, 0));
        cases.refuses("Promise 26: no frame goes ahead of no such threshold", Cases.NO_SUCH, world,
            x -> x.scratch(3, 6, 0, 256));
        cases.refuses("Promise 26: no frame goes ahead of to ahead of from", Cases.NO_SUCH, world,
            x -> x.scratch(3, 0, -1, 0));
    }

    private static void scratched(String name, int due, int threshold, int... points) {
        cases.answers("Scratches: " + name, due, World.editionOf(points), x -> x.scratch(3, 0, 0, threshold));
    }

    private static void scratchThresholds() {
        scratched("just the threshold above", 0, 20, 0, 0, 50, 70, 50, 0, 0, 0);
        scratched("more than the threshold above", 1, 20, 0, 0, 50, 71, 50, 0, 0, 0);
        scratched("just the threshold above the greater one, ahead of it", 0, 20, 0, 0, 50, 70, 0, 0, 0, 0);
        scratched("just the threshold above the greater one, behind it", 0, 20, 0, 0, 0, 70, 50, 0, 0, 0);
        scratched("more than the threshold above the greater one, ahead of it", 1, 20, 0, 0, 50, 71, 0, 0, 0, 0);
        scratched("more than the threshold above the greater one, behind it", 1, 20, 0, 0, 0, 71, 50, 0, 0, 0);
        scratched("below both by more than the threshold", 0, 20, 0, 0, 200, 0, 200, 0, 0, 0);
        scratched("points farther on do not matter", 1, 20, 255, 255, 50, 71, 50, 255, 255, 255);
        scratched("a threshold of 0, 1 above", 1, 0, 0, 0, 50, 51, 50, 0, 0, 0);
        scratched("a threshold of 0, as high", 0, 0, 0, 0, 50, 50, 50, 0, 0, 0);
        scratched("a threshold of 255, as far above as can be", 0, 255, 0, 0, 0, 255, 0, 0, 0, 0);
        scratched("a threshold of 254, as far above as can be", 1, 254, 0, 0, 0, 255, 0, 0, 0, 0);
    }

    private static void scratchMends(String name, int point, int[] frame, int... due) {
        cases.answers("Scratches become: " + name, World.points(due), World.then(World.editionOf(frame),
            x -> x.scratch(point, 0, 0, 0)), x -> x.seen(0));
    }

    private static void scratchBecomes() {
        scratchMends("point 1", 1, row(10, 90, 20, 1, 2, 3, 4, 5), 10, 15, 20, 1, 2, 3, 4, 5);
        scratchMends("point 6", 6, row(1, 2, 3, 4, 5, 10, 90, 20), 1, 2, 3, 4, 5, 10, 15, 20);
        scratchMends("an odd sum divided by 2, rounded down", 3, row(0, 0, 10, 90, 21, 0, 0, 0), 0, 0, 10, 15, 21, 0, 0, 0);
        scratchMends("the sum of 0 and 1", 3, row(7, 7, 1, 90, 0, 7, 7, 7), 7, 7, 1, 0, 0, 7, 7, 7);
        scratchMends("the greatest sum", 3, row(0, 0, 254, 255, 254, 0, 0, 0), 0, 0, 254, 254, 254, 0, 0, 0);
        scratchMends("the least sum", 3, row(7, 7, 0, 255, 0, 7, 7, 7), 7, 7, 0, 0, 0, 7, 7, 7);
    }

    private static void scratchFromTo() {
        Cases.Use three = World.editionOf(SCRATCHED, SCRATCHED, SCRATCHED);
        cases.answers("Scratches, from a first to a last one: all", 3, three, x -> x.scratch(3, 0, 2, 20));
        cases.answers("Scratches, from a first to a last one: the first alone", 1, three, x -> x.scratch(3, 0, 0, 20));
        cases.answers("Scratches, from a first to a last one: the last alone", 1, three, x -> x.scratch(3, 2, 2, 20));
        cases.answers("Scratches: the frame ahead of the first one stays", 0, World.then(three,
            x -> x.scratch(3, 1, 1, 20)), x -> x.ofFrame(0, CHANGES));
        cases.answers("Scratches: the frame behind the last one stays", 0, World.then(three,
            x -> x.scratch(3, 1, 1, 20)), x -> x.ofFrame(2, CHANGES));
        cases.answers("Scratches: the frame itself is mended", 1, World.then(three, x -> x.scratch(3, 1, 1, 20)),
            x -> x.ofFrame(1, CHANGES));
        int[] narrow = World.but(NINE, 3, 29);
        for (int place = 0; place < 3; place++) {
            int[][] frames = {SCRATCHED, SCRATCHED, SCRATCHED};
            frames[place] = narrow;
            cases.answers("Scratches, otherwise nothing is done: but for frame " + place, 0, World.editionOf(frames),
                x -> x.scratch(3, 0, 2, 20));
            cases.holds("Scratches, otherwise nothing is done: all stay but for frame " + place, true, World.then(
                World.editionOf(frames), x -> x.scratch(3, 0, 2, 20)), x -> x.sum(true) == x.sum(false));
        }
        cases.answers("Scratches, otherwise nothing is done: beside it there is none", 2, World.editionOf(SCRATCHED,
            SCRATCHED, narrow), x -> x.scratch(3, 0, 1, 20));
        cases.answers("Scratches: changes are numbered by frames, the first one", 0, World.then(three,
            x -> x.scratch(3, 0, 2, 20)), x -> x.takeBack(0));
        cases.answers("Scratches: changes are numbered by frames, the last one", 2, World.then(three,
            x -> x.scratch(3, 0, 2, 20)), x -> x.takeBack(2));
        cases.answers("Scratches: the 120th frame", 1, x -> {
            World.reel(x, 0);
            World.frame(x, 0, 0, SCRATCHED);
            World.addVersion(x, 1, 119, 0, 0);
            x.edition(0);
        }, x -> x.scratch(3, 0, 119, 20));
    }

    private static void scratchAndProtected() {
        Cases.Use kept = World.then(World.editionOf(SCRATCHED, NINE, SCRATCHED), x -> x.protect(1, true));
        cases.answers("Scratches: but for PROTECTED ones", 2, kept, x -> x.scratch(3, 0, 2, 20));
        cases.answers("Scratches: not PROTECTED any more", 0, World.then(kept, x -> x.protect(1, false)),
            x -> x.scratch(3, 0, 2, 20));
        cases.answers("Scratches: but for GAPs", 2, World.editionOf(SCRATCHED, World.GAP, SCRATCHED),
            x -> x.scratch(3, 0, 2, 20));
        cases.answers("Scratches: a GAP stays of points 0", 0L, World.then(World.editionOf(SCRATCHED, World.GAP),
            x -> x.scratch(3, 0, 1, 20)), x -> x.seen(1));
        cases.answers("Scratches: a PROTECTED one is not changed", 1, World.then(World.editionOf(SCRATCHED, SCRATCHED),
            x -> x.protect(0, true)), x -> x.scratch(3, 0, 1, 20));
        cases.answers("Scratches: a PROTECTED one stays", World.points(SCRATCHED), World.then(World.editionOf(SCRATCHED,
            SCRATCHED), x -> {
                x.protect(0, true);
                x.scratch(3, 0, 1, 20);
            }), x -> x.seen(0));
        cases.answers("Scratches: the first one is PROTECTED", 1, World.then(World.editionOf(NINE, SCRATCHED),
            x -> x.protect(0, true)), x -> x.scratch(3, 0, 1, 20));
        cases.answers("Scratches: the last one is a GAP", 1, World.editionOf(SCRATCHED, World.GAP),
            x -> x.scratch(3, 0, 1, 20));
        cases.answers("Scratches: all of them PROTECTED", 0, World.then(World.editionOf(SCRATCHED),
            x -> x.protect(0, true)), x -> x.scratch(3, 0, 0, 20));
        cases.answers("Scratches: all of them GAPs", 0, World.editionOf(World.GAP), x -> x.scratch(3, 0, 0, 0));
        cases.answers("Scratches: PROTECTED ones beside it do not matter", 1, World.then(World.editionOf(SCRATCHED,
            SCRATCHED, SCRATCHED), x -> {
                x.protect(0, true);
                x.protect(2, true);
            }), x -> x.scratch(3, 1, 1, 20));
    }

    // ---- flicker

    /** What the point 1 of a frame of 100s becomes, its point 0 being so much more, or theirs. */
    private static void flickers(String name, int due, int more, int aheadMore, int behindMore) {
        cases.answers("Flicker: " + name, due, World.then(World.editionOf(World.but(HUNDRED, 0, 100 + aheadMore),
            World.but(HUNDRED, 0, 100 + more), World.but(HUNDRED, 0, 100 + behindMore)), x -> {
                x.limit(8);
                x.flicker();
            }), x -> x.seen(1) >> 8 & 255);
    }

    private static void flickerDifferences() {
        flickers("no difference", 100, 0, 0, 0);
        flickers("7 less than theirs is rounded to 0", 100, -7, 0, 0);
        flickers("8 less than theirs", 101, -8, 0, 0);
        flickers("15 less than theirs is rounded down to 1", 101, -15, 0, 0);
        flickers("16 less than theirs", 102, -16, 0, 0);
        flickers("7 more than theirs is rounded to 0", 100, 7, 0, 0);
        flickers("8 more than theirs", 99, 8, 0, 0);
        flickers("15 more than theirs is rounded toward 0", 99, 15, 0, 0);
        flickers("16 more than theirs", 98, 16, 0, 0);
        flickers("an odd sum of theirs divided by 2, rounded down to 7 more", 100, 0, 15, 0);
        flickers("an even sum of theirs divided by 2, 8 more", 101, 0, 0, 16);
        flickers("an odd sum of theirs, rounded down to 8 less", 99, 0, -15, 0);
        flickers("an odd sum of theirs, rounded down to 7 less", 100, 0, -13, 0);
        flickers("both of theirs count", 100, 0, 8, -8);
        Cases.Use less7 = World.then(World.editionOf(HUNDRED, World.but(HUNDRED, 0, 93), HUNDRED), x -> x.limit(8));
        cases.answers("Flicker: a difference of 7 is no change", 0, less7, x -> x.flicker());
        Cases.Use less8 = World.then(World.editionOf(HUNDRED, World.but(HUNDRED, 0, 92), HUNDRED), x -> x.limit(8));
        cases.answers("Flicker: a difference of 8 is one change", 1, less8, x -> x.flicker());
        for (int k = 0; k < 8; k++) {
            int point = k;
            cases.answers("Flicker: point " + point + " gets it, too", 100, World.then(World.editionOf(HUNDRED,
                World.flat(99), HUNDRED), x -> {
                    x.limit(8);
                    x.flicker();
                }), x -> x.seen(1) >>> 8 * point & 255);
            cases.answers("Flicker: point " + point + " of a neighbour counts", 1, World.then(World.editionOf(HUNDRED,
                HUNDRED, World.but(HUNDRED, point, 116)), x -> x.limit(8)), x -> x.flicker());
        }
    }

    private static void flickerMends(String name, int neighbours, int[] frame, int... due) {
        cases.answers("Flicker: " + name, World.points(due), World.then(World.editionOf(World.flat(neighbours), frame,
            World.flat(neighbours)), x -> {
                x.limit(8);
                x.flicker();
            }), x -> x.seen(1));
    }

    private static void flickerEnds() {
        // The frame's sum is 800, so each point gets 50 more, or 50 less.
        int[] frame = row(0, 49, 50, 51, 205, 206, 204, 35);
        flickerMends("at most 255", 150, frame, 50, 99, 100, 101, 255, 255, 254, 85);
        flickerMends("at least 0", 50, frame, 0, 0, 0, 1, 155, 156, 154, 0);
        flickerMends("from 0 to 255", 255, World.flat(0), 255, 255, 255, 255, 255, 255, 255, 255);
        flickerMends("from 255 to 0", 0, World.flat(255), 0, 0, 0, 0, 0, 0, 0, 0);
        flickerMends("neither all points 255 get more", 255, World.flat(255), 255, 255, 255, 255, 255, 255, 255, 255);
        flickerMends("nor all points 0 get less", 0, World.flat(0), 0, 0, 0, 0, 0, 0, 0, 0);
    }

    private static void flickerAndNeighbours() {
        int[] dark = World.flat(1);
        Cases.Use four = World.then(World.editionOf(HUNDRED, World.flat(40), World.flat(110), World.flat(90)),
            x -> x.limit(8));
        cases.answers("Promise 27: without an edition", 0, World::empty, x -> x.flicker());
        cases.answers("Promise 27: an edition without frames", 0, World.editionOf(), x -> x.flicker());
        cases.answers("Flicker: one frame has no neighbours", 0, World.then(World.editionOf(dark), x -> x.limit(8)),
            x -> x.flicker());
        cases.answers("Flicker: two frames have not both neighbours", 0, World.then(World.editionOf(dark, HUNDRED),
            x -> x.limit(8)), x -> x.flicker());
        cases.answers("Flicker: the first frame has not both neighbours", World.points(HUNDRED), World.then(four,
            x -> x.flicker()), x -> x.seen(0));
        cases.answers("Flicker: the last frame has not both neighbours", World.points(World.flat(90)), World.then(four,
            x -> x.flicker()), x -> x.seen(3));
        cases.answers("Flicker: the frame ahead as it was", World.points(World.flat(65)), World.then(four,
            x -> x.flicker()), x -> x.seen(2));
        cases.answers("Flicker: the frame behind as it was", World.points(World.flat(105)), World.then(four,
            x -> x.flicker()), x -> x.seen(1));
        int[] brighter = World.but(HUNDRED, 3, 116);
        cases.answers("Flicker: the neighbour ahead as it was mended before", 0, World.then(World.editionOf(brighter,
            HUNDRED, HUNDRED), x -> {
                x.limit(8);
                x.scratch(3, 0, 0, 0);
            }), x -> x.flicker());
        cases.answers("Flicker: the neighbour behind as it was mended before", 0, World.then(World.editionOf(HUNDRED,
            HUNDRED, brighter), x -> {
                x.limit(8);
                x.scratch(3, 2, 2, 0);
            }), x -> x.flicker());
        cases.answers("Flicker: changes are numbered by frames, the first one", 1, World.then(four, x -> x.flicker()),
            x -> x.takeBack(0));
        cases.answers("Flicker: changes are numbered by frames, the last one", 2, World.then(four, x -> x.flicker()),
            x -> x.takeBack(1));
        out("Flicker", x -> {
            x.limit(8);
            return x.flicker();
        });
    }

    // ---- the limit

    private static int[] dirtyOf(int points) {
        int[] frame = NINE.clone();
        for (int point = 0; point < points; point++) {
            frame[point] = 90;
        }
        return frame;
    }

    private static void dirtLimited(String name, int due, int limit, int points) {
        cases.answers("The limit, of dirt: " + name, due, World.then(World.editionOf(NINE, dirtyOf(points), NINE),
            x -> x.limit(limit)), x -> x.dirt(20));
    }

    private static void limitsOfDirt() {
        cases.answers("The limit, 4 at first: 4 points", 1, World.editionOf(NINE, dirtyOf(4), NINE), x -> x.dirt(20));
        cases.answers("The limit, 4 at first: 5 points", 0, World.editionOf(NINE, dirtyOf(5), NINE), x -> x.dirt(20));
        dirtLimited("no point of a limit of 0", 0, 0, 1);
        dirtLimited("1 point of a limit of 1", 1, 1, 1);
        dirtLimited("2 points of a limit of 1", 0, 1, 2);
        dirtLimited("7 points of a limit of 7", 1, 7, 7);
        dirtLimited("8 points of a limit of 7", 0, 7, 8);
        dirtLimited("8 points of a limit of 8", 1, 8, 8);
        cases.answers("The limit, of dirt: what is not made changes no point", World.points(dirtyOf(5)), World.then(
            World.editionOf(NINE, dirtyOf(5), NINE), x -> x.dirt(20)), x -> x.seen(1));
        Cases.Use both = World.editionOf(NINE, dirtyOf(5), NINE, NINE, dirtyOf(4), NINE);
        cases.answers("The limit, each frame by itself: of dirt", 1, both, x -> x.dirt(20));
        cases.answers("The limit, each frame by itself: the other frame has change 0", 4, World.then(both,
            x -> x.dirt(20)), x -> x.takeBack(0));
    }

    /** Four of its points are scratches: 1, 2 and 3, when the ones ahead of them were mended, and 5. */
    private static final int[] SCRATCHES = {0, 200, 150, 100, 0, 50, 40, 0};

    private static void scratchFour(Reelrescue x, int place) {
        for (int point : new int[] {1, 2, 3, 5}) {
            x.scratch(point, place, place, 0);
        }
    }

    private static void limitsOfScratches() {
        Cases.Use four = World.then(World.editionOf(SCRATCHES, SCRATCHES), x -> scratchFour(x, 0));
        cases.answers("The limit, 4 at first: 4 scratches", 4, four, x -> x.ofFrame(0, CHANGES));
        cases.answers("The limit, of scratches: a fifth point", 0, four, x -> x.scratch(6, 0, 0, 0));
        cases.answers("The limit, of scratches: one of the four points again", 1, four, x -> x.scratch(2, 0, 0, 0));
        cases.answers("The limit, of scratches: a fifth point of a limit of 5", 1, World.then(four, x -> x.limit(5)),
            x -> x.scratch(6, 0, 0, 0));
        cases.answers("The limit, each frame by itself: of a scratch", 1, World.then(four, x -> x.scratch(5, 1, 1, 0)),
            x -> x.scratch(6, 0, 1, 0));
        cases.answers("The limit, each frame by itself: which frame has the change", 1, World.then(four, x -> {
            x.scratch(5, 1, 1, 0);
            x.scratch(6, 0, 1, 0);
        }), x -> x.takeBack(5));
        cases.answers("The limit, of scratches: none of a limit of 0", 0, World.then(World.editionOf(SCRATCHED),
            x -> x.limit(0)), x -> x.scratch(3, 0, 0, 20));
        Cases.Use lower = World.then(four, x -> x.limit(3));
        cases.answers("The limit, of scratches: below what is unlike already", 0, lower, x -> x.scratch(2, 0, 0, 0));
        cases.answers("The limit: what is unlike already stays", 4, lower, x -> x.ofFrame(0, UNLIKE));
        cases.answers("The limit: what is unlike already can be taken back", 0, lower, x -> x.takeBack(3));
        cases.answers("The limit, of scratches: of what was taken, not of changes", 1, World.then(four, x -> {
            x.takeBack(3);
            x.takeBack(2);
        }), x -> x.scratch(3, 0, 0, 0));
    }

    private static void limitsOfFlicker() {
        Cases.Use dark = World.editionOf(NINE, World.flat(0), NINE);
        int[] bright = World.but(World.flat(0), 4, 255);
        Cases.Use seven = World.editionOf(World.flat(200), bright, World.flat(200));
        cases.answers("The limit, of flicker: 8 points of the first limit", 0, dark, x -> x.flicker());
        cases.answers("The limit, of flicker: 8 points of a limit of 7", 0, World.then(dark, x -> x.limit(7)),
            x -> x.flicker());
        cases.answers("The limit, of flicker: 8 points of a limit of 8", 1, World.then(dark, x -> x.limit(8)),
            x -> x.flicker());
        cases.answers("The limit, of flicker: a point that stays at 255 is not unlike", 1, World.then(seven,
            x -> x.limit(7)), x -> x.flicker());
        cases.answers("The limit, of flicker: 7 points of a limit of 6", 0, World.then(seven, x -> x.limit(6)),
            x -> x.flicker());
        cases.answers("The limit, each frame by itself: of flicker", 1, World.then(World.editionOf(World.flat(200), bright,
            World.flat(200), World.flat(0), World.flat(200)), x -> {
                x.limit(7);
                x.protect(2, false);
            }), x -> x.flicker());
    }

    // ---- taking back

    private static void takeBackArguments() {
        cases.refuses("Promise 28: no edition", Cases.NO_SUCH, World.versionOf(0, 0), x -> x.takeBack(0));
        cases.refuses("Promise 28: no change", Cases.NO_SUCH, World.editionOf(NINE), x -> x.takeBack(0));
        cases.range("Promise 28, change: its number", 0, 0, Cases.NO_SUCH, World.then(World.editionOf(SCRATCHED),
            x -> x.scratch(3, 0, 0, 0)), (x, change) -> x.takeBack(change));
        cases.range("Promise 28, change: one of 3", 0, 2, Cases.NO_SUCH, World.then(World.editionOf(SCRATCHED, SCRATCHED,
            SCRATCHED), x -> x.scratch(3, 0, 2, 0)), (x, change) -> x.takeBack(change));
        cases.refuses("Promise 28: a later one is in the frame", Cases.NOT_NOW, World::standard, x -> x.takeBack(1));
        cases.refuses("Promise 28: it was taken back", Cases.NOT_NOW, World::standard, x -> x.takeBack(3));
        cases.refuses("Promise 28: one that was not made", Cases.NO_SUCH, World.then(World.editionOf(NINE, dirtyOf(5),
            NINE), x -> x.dirt(20)), x -> x.takeBack(0));
    }

    private static void takingBack() {
        int[] twice = World.but(World.but(NINE, 1, 90), 4, 80);
        Cases.Use two = World.then(World.editionOf(twice, twice), x -> {
            x.scratch(1, 0, 1, 0);
            x.scratch(4, 1, 1, 0);
        });
        Cases.Use later = World.then(two, x -> x.takeBack(2));
        Cases.Use again = World.then(later, x -> x.scratch(4, 1, 1, 0));
        cases.answers("Promise 28, the frame in which it was: the first", 0, two, x -> x.takeBack(0));
        cases.answers("Promise 28, the frame in which it was: the last", 1, two, x -> x.takeBack(2));
        cases.answers("Taking back: no later one in the same frame, but in another", 0, two, x -> x.takeBack(0));
        cases.refuses("Taking back: a later one in the same frame", Cases.NOT_NOW, two, x -> x.takeBack(1));
        cases.answers("Taking back: the later one was taken back", 1, later, x -> x.takeBack(1));
        cases.refuses("Taking back: it was taken back itself", Cases.NOT_NOW, later, x -> x.takeBack(2));
        cases.refuses("Taking back: a later one again", Cases.NOT_NOW, again, x -> x.takeBack(1));
        cases.refuses("Taking back: it was taken back, and there is a later one", Cases.NOT_NOW, again, x -> x.takeBack(2));
        cases.answers("Taking back: numbers are not given again", 1, again, x -> x.takeBack(3));
        cases.answers("Taking back: the frame is as it was ahead of the change", World.points(World.but(NINE, 4, 80)),
            later, x -> x.seen(1));
        cases.answers("Taking back: another frame stays", World.points(World.but(NINE, 4, 80)), later, x -> x.seen(0));
        cases.answers("Taking back: all of a frame is as it was taken", World.points(twice), World.then(later,
            x -> x.takeBack(1)), x -> x.seen(1));
        cases.answers("Taking back: a frame that is PROTECTED since", 1, World.then(two, x -> x.protect(1, true)),
            x -> x.takeBack(2));
        cases.answers("Taking back: with a limit of 0", 1, World.then(two, x -> x.limit(0)), x -> x.takeBack(2));
        Cases.Use secondEdition = World.then(World.editionOf(SCRATCHED), x -> {
            x.scratch(3, 0, 0, 0);
            x.edition(0);
            x.scratch(3, 0, 0, 0);
        });
        cases.answers("Taking back: change 0 of a second edition", 0, secondEdition, x -> x.takeBack(0));
        cases.refuses("Taking back: change 0 of a second edition was taken back", Cases.NOT_NOW, World.then(secondEdition,
            x -> x.takeBack(0)), x -> x.takeBack(0));
        cases.answers("Taking back: the same mending again is a new change", 2, World.then(World.editionOf(SCRATCHED), x -> {
            x.scratch(3, 0, 0, 0);
            x.takeBack(0);
            x.scratch(3, 0, 0, 0);
            x.takeBack(1);
            x.scratch(3, 0, 0, 0);
        }), x -> x.takeBack(2) + 2);
    }

    // ---- the last of 512 calls

    private static final int FLICKERS = 420;

    /** 511 calls: 26 to set up, 65 that ask, and flickers of 118 frames, dark and bright ones in turn. */
    private static void calls511(Reelrescue x) {
        x.reel(Reelrescue.ACETATE, 1950, 0, Reelrescue.NONE, 0);
        for (int code = 0; code < 12; code++) {
            x.frame(0, code, -(code % 2), -(code % 2));
        }
        World.addVersion(x, 0, 11, 0, 11, 0, 11, 0, 11, 0, 11, 0, 11, 0, 11, 0, 11, 0, 11, 0, 11);
        x.limit(8);
        x.edition(0);
        for (int i = 0; i < 65; i++) {
            x.sum(true);
        }
        for (int i = 0; i < FLICKERS; i++) {
            x.flicker();
        }
    }

    private static void lastCall() {
        int made = FLICKERS * 118;
        cases.answers("512 calls: the last one mends", 118, BoundaryMendingTest::calls511, x -> x.flicker());
        cases.answers("512 calls: the last one tells all changes of a frame", FLICKERS, BoundaryMendingTest::calls511,
            x -> x.ofFrame(60, CHANGES));
        cases.answers("512 calls: the last one takes the latest change back", 118, BoundaryMendingTest::calls511,
            x -> x.takeBack(made - 1));
        cases.holds("512 calls: the last one refuses a change that was not made", true, BoundaryMendingTest::calls511,
            x -> {
                try {
                    x.takeBack(made);
                    return false;
                } catch (IndexOutOfBoundsException refused) {
                    return refused.getClass() == Cases.NO_SUCH;
                }
            });
    }
}
