import java.util.Arrays;

/** States from which the boundary cases start, and what makes them short to tell. */
final class World {
    static final int NONE = Reelrescue.NONE;
    static final int NITRATE = Reelrescue.NITRATE;
    static final int ACETATE = Reelrescue.ACETATE;
    static final int[] GAP = {};

    private World() {
    }

    static void empty(Reelrescue x) {
    }

    /**
     * Something of all: reels 0 to 2, the last of which cannot be read; versions 0 and 1; an edition of 6 frames with
     * changes 0 to 3, the last of which was taken back, frame 3 PROTECTED and frame 5 a GAP; the year 2001.
     */
    static void standard(Reelrescue x) {
        reels(x);
        versions(x);
        x.tolerance(30);
        x.limit(5);
        x.edition(0);
        x.scratch(3, 0, 1, 20);
        x.scratch(5, 1, 1, 20);
        x.dirt(20);
        x.takeBack(3);
        x.protect(3, true);
    }

    private static void reels(Reelrescue x) {
        x.reel(NITRATE, 1920, 0, NONE, 100);
        x.reel(ACETATE, 1950, 2, 0, 50);
        x.reel(NITRATE, 1900, 1, NONE, 299);
        x.cold(1, true);
        x.pass(1);
        for (int code : new int[] {10, 11, 13, 14, 16}) {
            frame(x, 0, code, flat(9));
        }
        frame(x, 1, 10, but(flat(9), 3, 90));
        frame(x, 1, 11, but(but(flat(9), 3, 90), 5, 80));
        frame(x, 1, 13, but(flat(9), 0, 200));
        frame(x, 2, 12, flat(5));
        x.splice(0, 1);
        x.splice(1, 1);
    }

    private static void versions(Reelrescue x) {
        x.version(1, 1921);
        x.version(0, 2100);
        x.shot(0, 10, 11);
        x.shot(0, 13, 14);
        x.shot(0, 16, 17);
        x.proof(0);
        x.speed(0, 1, 20);
        x.scrap(10, 3);
        x.scrap(11, 3);
        x.scrap(16, 9);
        x.right(0, 2, 1, 1950, 1980);
        x.right(0, 3, 1, 1990, 2200);
        x.allow(0, 2, true);
    }

    static int reel(Reelrescue x, int decay, int... codes) {
        return reelOf(x, NITRATE, 1950, NONE, decay, codes);
    }

    /** A reel of black frames with these codes. */
    static int reelOf(Reelrescue x, int base, int year, int parent, int decay, int... codes) {
        int reel = x.reel(base, year, 0, parent, decay);
        for (int code : codes) {
            x.frame(reel, code, 0, 0);
        }
        return reel;
    }

    static void frame(Reelrescue x, int reel, int code, int... points) {
        long frame = points(points);
        x.frame(reel, code, (int) frame, (int) (frame >>> 32));
    }

    static Cases.Use twelveReels() {
        return x -> {
            for (int i = 0; i < 12; i++) {
                reelOf(x, ACETATE, 1950, i - 1, 0, 10, 12);
            }
        };
    }

    static Cases.Use codesFrom0(int frames) {
        return x -> {
            int reel = reel(x, 0);
            for (int code = 0; code < frames; code++) {
                x.frame(reel, code, code, 0);
            }
        };
    }

    static Cases.Use versionOf(int... ends) {
        return x -> addVersion(x, ends);
    }

    /** A version of shots, each told by its first and its last code. */
    static int addVersion(Reelrescue x, int... ends) {
        int version = x.version(0, 1950);
        for (int i = 0; i < ends.length; i += 2) {
            x.shot(version, ends[i], ends[i + 1]);
        }
        return version;
    }

    /** An edition of these frames; a GAP is a code that no reel has. */
    static Cases.Use editionOf(int[]... frames) {
        return x -> {
            x.reel(ACETATE, 1950, 0, NONE, 0);
            for (int code = 0; code < frames.length; code++) {
                if (frames[code] != GAP) {
                    frame(x, 0, code, frames[code]);
                }
            }
            x.version(0, 1950);
            if (frames.length > 0) {
                x.shot(0, 0, frames.length - 1);
            }
            x.edition(0);
        };
    }

    static Cases.Use then(Cases.Use first, Cases.Use second) {
        return x -> {
            first.of(x);
            second.of(x);
        };
    }

    static long points(int... points) {
        long frame = 0;
        for (int k = 7; k >= 0; k--) {
            frame = frame << 8 | points[k];
        }
        return frame;
    }

    static int[] flat(int value) {
        int[] points = new int[8];
        Arrays.fill(points, value);
        return points;
    }

    static int[] but(int[] points, int point, int value) {
        int[] other = points.clone();
        other[point] = value;
        return other;
    }
}
