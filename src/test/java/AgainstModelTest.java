import java.util.function.LongSupplier;

/** Runs of 512 calls, right and wrong ones mixed, on the program and on the model. */
public final class AgainstModelTest {
    private static final int RUNS = 1500;
    private static final int CALLS = 512;
    private static final int[] ODD = {-1, -2, 12, 60, 120, 999, 1000, Integer.MIN_VALUE, Integer.MAX_VALUE};

    private static final Check check = new Check();

    private final Reelrescue program = new Reelrescue();
    private final Model model = new Model();
    private final int run;
    private final StringBuilder told = new StringBuilder();
    private long state;
    private boolean same = true;

    private AgainstModelTest(int run) {
        this.run = run;
        state = run * 7919L + 1;
    }

    public static void main(String[] args) {
        for (int run = 0; run < RUNS; run++) {
            new AgainstModelTest(run).go();
        }
        check.end();
    }

    private void go() {
        int built = 40 + below(160);
        for (int call = 0; call < CALLS && same; call++) {
            if (call < built) {
                build();
            } else {
                use();
            }
            if (!same) {
                check.tell("run " + run + ", call " + call + ": " + told);
            }
        }
    }

    /** A number of the test's own: the same in every run of it. */
    private int below(int bound) {
        state = state * 6364136223846793005L + 1442695040888963407L;
        return (int) ((state >>> 33) % bound);
    }

    /** Mostly 0 to bound - 1, seldom something else. */
    private int number(int bound) {
        int luck = below(40);
        return luck == 0 ? ODD[below(ODD.length)] : luck == 1 ? bound : below(bound);
    }

    /** From least on, at times a bit beyond the ends, seldom something else. */
    private int between(int least, int greatest) {
        int luck = below(30);
        return luck == 0 ? ODD[below(ODD.length)] : luck == 1 ? least - 1 : luck == 2 ? greatest + 1
            : luck == 3 ? greatest : least + below(greatest - least + 1);
    }

    private boolean either() {
        return below(2) == 0;
    }

    private int points() {
        int kind = run % 4;
        int points = 0;
        for (int k = 0; k < 4; k++) {
            int point = kind == 0 ? below(256) : kind == 1 ? 100 + below(12) : 90 + below(3);
            if (below(kind == 3 ? 4 : 12) == 0) {
                point = either() ? 255 - below(60) : below(60);
            }
            points = points << 8 | point;
        }
        return points;
    }

    private int code() {
        return number(run % 3 == 0 ? 30 : 12);
    }

    private void build() {
        int luck = below(100);
        if (luck < 10) {
            reel();
        } else if (luck < 72) {
            frame();
        } else if (luck < 76) {
            compare("version", number(4), between(1890, 2100));
        } else if (luck < 82) {
            shot();
        } else if (luck < 87) {
            compare("scrap", code(), number(4));
        } else if (luck < 91) {
            compare("right", number(2), number(3), number(2), between(1950, 2000), between(1990, 2040));
        } else if (luck < 95) {
            compare("splice", number(4), number(9));
        } else {
            compare("copy", number(5));
        }
    }

    private void reel() {
        int parent = below(3) == 0 ? number(4) : -1;
        compare("reel", number(2), between(1990, 2000), number(4), parent, between(run % 5 == 0 ? 290 : 0, 299));
    }

    private void frame() {
        compare("frame", number(run % 2 == 0 ? 2 : 5), code(), points(), points());
    }

    private void shot() {
        int from = code();
        compare("shot", number(2), from, below(30) == 0 ? code() : from + below(run % 3 == 0 ? 25 : 9));
    }

    private void use() {
        int luck = below(100);
        if (luck < 6) {
            build();
        } else if (luck < 30) {
            reels();
        } else if (luck < 48) {
            versions();
        } else {
            edition();
        }
    }

    private void reels() {
        switch (below(9)) {
            case 0: compare("cold", number(6), below(2)); break;
            case 1: case 2: compare("ofReel", number(6), number(9)); break;
            case 3: compare("tolerance", below(3) == 0 ? number(2041) : number(90)); break;
            case 4: compare("align", number(5), number(5)); break;
            case 5: case 6: compare("pairOf", number(5), number(12), number(5)); break;
            case 7: compare("alike", number(5), number(12), number(5), number(12)); break;
            default: compare("pass", below(4) == 0 ? number(101) : number(4)); break;
        }
    }

    private void versions() {
        switch (below(7)) {
            case 0: compare("proof", number(4)); break;
            case 1: compare("speed", number(2), number(4), between(8, 30)); break;
            case 2: case 3: compare("ofVersion", number(3), number(6)); break;
            case 4: compare("tint", number(2), number(5)); break;
            case 5: compare("allow", number(2), number(3), below(2)); break;
            default: compare("mayShow", number(2), number(2), between(1945, 2045)); break;
        }
    }

    private void edition() {
        switch (below(24)) {
            case 0: compare("edition", number(2)); break;
            case 1: case 2: compare("protect", number(20), below(3) == 0 ? 1 : 0); break;
            case 3: compare("limit", below(3) == 0 ? 8 : number(9)); break;
            case 4: case 5: case 6: compare("dirt", below(8) == 0 ? number(256) : number(20)); break;
            case 7: case 8: scratch(); break;
            case 9: case 10: compare("flicker"); break;
            case 11: case 12: case 13: case 14: compare("takeBack", number(either() ? 10 : 60)); break;
            case 15: case 16: case 17: compare("ofFrame", number(20), number(5)); break;
            case 18: case 19: case 20: compare("seen", number(25)); break;
            default: compare("sum", below(2)); break;
        }
    }

    private void scratch() {
        int from = number(20);
        compare("scratch", between(1, 6), from, below(9) == 0 ? number(20) : from + below(3), number(60));
    }

    private void compare(String name, int... args) {
        told.append(name).append(java.util.Arrays.toString(args));
        String due = answer(() -> ofModel(name, args));
        String got = answer(() -> ofProgram(name, args));
        told.append(" -> ").append(due).append('\n');
        same = due.equals(got);
        check.is(name, true, same);
        if (!same) {
            told.append("but the program answered ").append(got);
        }
    }

    private static String answer(LongSupplier call) {
        try {
            return Long.toString(call.getAsLong());
        } catch (RuntimeException thrown) {
            return thrown.getClass().getName();
        }
    }

    private long ofModel(String name, int[] a) {
        switch (name) {
            case "reel": return model.reel(a[0], a[1], a[2], a[3], a[4]);
            case "frame": return model.frame(a[0], a[1], a[2], a[3]);
            case "splice": return model.splice(a[0], a[1]);
            case "cold": return model.cold(a[0], a[1] == 1);
            case "copy": return model.copy(a[0]);
            case "ofReel": return model.ofReel(a[0], a[1]);
            case "tolerance": return model.tolerance(a[0]);
            case "align": return model.align(a[0], a[1]);
            case "pairOf": return model.pairOf(a[0], a[1], a[2]);
            case "alike": return model.alike(a[0], a[1], a[2], a[3]);
            case "version": return model.version(a[0], a[1]);
            case "shot": return model.shot(a[0], a[1], a[2]);
            case "proof": return model.proof(a[0]);
            case "speed": return model.speed(a[0], a[1], a[2]);
            case "ofVersion": return model.ofVersion(a[0], a[1]);
            case "scrap": return model.scrap(a[0], a[1]);
            case "tint": return model.tint(a[0], a[1]);
            case "right": return model.right(a[0], a[1], a[2], a[3], a[4]);
            case "allow": return model.allow(a[0], a[1], a[2] == 1);
            case "mayShow": return model.mayShow(a[0], a[1], a[2]);
            case "edition": return model.edition(a[0]);
            case "protect": return model.protect(a[0], a[1] == 1);
            case "limit": return model.limit(a[0]);
            case "dirt": return model.dirt(a[0]);
            case "scratch": return model.scratch(a[0], a[1], a[2], a[3]);
            case "flicker": return model.flicker();
            case "takeBack": return model.takeBack(a[0]);
            case "ofFrame": return model.ofFrame(a[0], a[1]);
            case "seen": return model.seen(a[0]);
            case "sum": return model.sum(a[0] == 1);
            case "pass": return model.pass(a[0]);
            default: throw new AssertionError(name);
        }
    }

    private long ofProgram(String name, int[] a) {
        switch (name) {
            case "reel": return program.reel(a[0], a[1], a[2], a[3], a[4]);
            case "frame": return program.frame(a[0], a[1], a[2], a[3]);
            case "splice": return program.splice(a[0], a[1]);
            case "cold": return program.cold(a[0], a[1] == 1);
            case "copy": return program.copy(a[0]);
            case "ofReel": return program.ofReel(a[0], a[1]);
            case "tolerance": return program.tolerance(a[0]);
            case "align": return program.align(a[0], a[1]);
            case "pairOf": return program.pairOf(a[0], a[1], a[2]);
            case "alike": return Float.floatToIntBits(program.alike(a[0], a[1], a[2], a[3]));
            case "version": return program.version(a[0], a[1]);
            case "shot": return program.shot(a[0], a[1], a[2]);
            case "proof": return program.proof(a[0]);
            case "speed": return program.speed(a[0], a[1], a[2]);
            case "ofVersion": return program.ofVersion(a[0], a[1]);
            case "scrap": return program.scrap(a[0], a[1]);
            case "tint": return program.tint(a[0], a[1]);
            case "right": return program.right(a[0], a[1], a[2], a[3], a[4]);
            case "allow": return program.allow(a[0], a[1], a[2] == 1) ? 1 : 0;
            case "mayShow": return program.mayShow(a[0], a[1], a[2]) ? 1 : 0;
            case "edition": return program.edition(a[0]);
            case "protect": return program.protect(a[0], a[1] == 1) ? 1 : 0;
            case "limit": return program.limit(a[0]);
            case "dirt": return program.dirt(a[0]);
            case "scratch": return program.scratch(a[0], a[1], a[2], a[3]);
            case "flicker": return program.flicker();
            case "takeBack": return program.takeBack(a[0]);
            case "ofFrame": return program.ofFrame(a[0], a[1]);
            case "seen": return program.seen(a[0]);
            case "sum": return program.sum(a[0] == 1);
            case "pass": return program.pass(a[0]);
            default: throw new AssertionError(name);
        }
    }
}
