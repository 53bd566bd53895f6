import java.util.function.LongSupplier;

/** Tells all of an object that its calls can bring to light, first by asking, then by using it up. */
final class Probe {
    // An object answers 512 calls; what a world takes of them is left to it.
    private static final int MOST_CALLS = 300;

    private final Reelrescue x;
    private final StringBuilder told = new StringBuilder();
    private int calls = 0;

    private Probe(Reelrescue x) {
        this.x = x;
    }

    static String of(Reelrescue x) {
        Probe probe = new Probe(x);
        probe.edition();
        probe.reels();
        probe.versions();
        probe.settings();
        probe.changes();
        probe.fillVersions();
        probe.fillReels();
        probe.time();
        if (probe.calls > MOST_CALLS) {
            throw new IllegalStateException("a probe of " + probe.calls + " calls");
        }
        return probe.told.toString();
    }

    /** Whether the call answered. */
    private boolean ask(String call, LongSupplier answer) {
        calls++;
        told.append(call).append(" answers ");
        try {
            told.append(answer.getAsLong()).append('\n');
            return true;
        } catch (RuntimeException thrown) {
            told.append(thrown.getClass().getName()).append('\n');
            return false;
        }
    }

    private static long bit(boolean yes) {
        return yes ? 1 : 0;
    }

    private void edition() {
        ask("sum(true)", () -> x.sum(true));
        ask("sum(false)", () -> x.sum(false));
        for (int i = 0; i < 7; i++) {
            int place = i;
            if (!ask("seen(" + place + ")", () -> x.seen(place))) {
                return;
            }
            for (int k = 0; k < 5; k++) {
                int what = k;
                ask("ofFrame(" + place + ", " + what + ")", () -> x.ofFrame(place, what));
            }
        }
        ask("seen(119)", () -> x.seen(119));
    }

    private void reels() {
        for (int i = 0; i < 13; i++) {
            int reel = i;
            if (!ask("ofReel(" + reel + ", 0)", () -> x.ofReel(reel, 0))) {
                return;
            }
            for (int k = 1; k < 9; k++) {
                int what = k;
                ask("ofReel(" + reel + ", " + what + ")", () -> x.ofReel(reel, what));
            }
            ask("align(" + reel + ", 0)", () -> x.align(reel, 0));
            ask("pairOf(0, 1, " + reel + ")", () -> x.pairOf(0, 1, reel));
            calls++;
            ask("alike of the last", () -> Float.floatToIntBits(x.alike(reel, x.ofReel(reel, 0) - 1, 0, 0)));
        }
    }

    private void versions() {
        for (int i = 0; i < 7; i++) {
            int version = i;
            if (!ask("ofVersion(" + version + ", 0)", () -> x.ofVersion(version, 0))) {
                return;
            }
            for (int k = 1; k < 6; k++) {
                int what = k;
                ask("ofVersion(" + version + ", " + what + ")", () -> x.ofVersion(version, what));
            }
            ask("tint(" + version + ", 0)", () -> x.tint(version, 0));
            for (int land = 0; land < 4 && version == 0; land++) {
                int there = land;
                for (int year : new int[] {1890, 1950, 1990, 2200}) {
                    ask("mayShow(0, " + there + ", " + year + ")", () -> bit(x.mayShow(0, there, year)));
                }
            }
        }
    }

    private void settings() {
        ask("tolerance", () -> x.tolerance(1));
        ask("limit", () -> x.limit(8));
        for (int i = 0; i < 7; i++) {
            int place = i;
            if (!ask("protect(" + place + ")", () -> bit(x.protect(place, false)))) {
                break;
            }
        }
    }

    private void changes() {
        for (int i = 6; i >= 0; i--) {
            int change = i;
            ask("takeBack(" + change + ")", () -> x.takeBack(change));
        }
        ask("sum(true)", () -> x.sum(true));
        ask("dirt", () -> x.dirt(3));
        ask("flicker", () -> x.flicker());
        ask("sum(true)", () -> x.sum(true));
    }

    private void fillVersions() {
        for (int i = 0; i < 10; i++) {
            int number = i;
            ask("allow(0, " + number + ")", () -> bit(x.allow(0, number, true)));
        }
        for (int i = 0; i < 10; i++) {
            int shot = i;
            if (!ask("speed(0, " + shot + ")", () -> x.speed(0, shot, 30))) {
                break;
            }
        }
        for (int i = 0; i < 3; i++) {
            int version = i;
            ask("proof(" + version + ")", () -> x.proof(version));
            ask("right(" + version + ")", () -> x.right(version, 9, 3, 2100, 2200));
            ask("shot(" + version + ")", () -> x.shot(version, 10, 11));
            ask("scrap(10)", () -> x.scrap(10, 1));
            ask("tint(" + version + ", 0)", () -> x.tint(version, 0));
            ask("version", () -> x.version(1, 1950));
        }
    }

    private void fillReels() {
        for (int i = 0; i < 12; i++) {
            int reel = i;
            ask("frame(" + reel + ")", () -> x.frame(reel, 20, 0, 0));
            if (!ask("splice(" + reel + ", 0)", () -> x.splice(reel, 0))) {
                break;
            }
        }
        ask("reel", () -> x.reel(Reelrescue.ACETATE, 1950, 0, Reelrescue.NONE, 0));
        ask("copy", () -> x.copy(0));
        ask("edition", () -> x.edition(0));
        ask("sum(false)", () -> x.sum(false));
    }

    private void time() {
        ask("pass", () -> x.pass(1));
        for (int i = 0; i < 13; i++) {
            int reel = i;
            if (!ask("ofReel(" + reel + ", 2)", () -> x.ofReel(reel, 2))) {
                break;
            }
            ask("cold(" + reel + ")", () -> x.cold(reel, true));
        }
    }
}
