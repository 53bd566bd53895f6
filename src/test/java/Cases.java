import java.util.HashSet;
import java.util.Set;

/** Boundary cases: each has a name of its own, starts on a new object and is judged alone. */
final class Cases {
    static final Class<? extends RuntimeException> NO_SUCH = IndexOutOfBoundsException.class;
    static final Class<? extends RuntimeException> OUT_OF_RANGE = IllegalArgumentException.class;
    static final Class<? extends RuntimeException> NOT_NOW = IllegalStateException.class;

    interface Use {
        void of(Reelrescue x);
    }

    interface Answer {
        long of(Reelrescue x);
    }

    interface Yes {
        boolean of(Reelrescue x);
    }

    interface Alike {
        float of(Reelrescue x);
    }

    interface Numbered {
        void of(Reelrescue x, int number);
    }

    private final Check check = new Check();
    private final Set<String> names = new HashSet<>();

    /** The call answers what is due. */
    void answers(String name, long due, Use world, Answer call) {
        alone(name, () -> check.is(name, due, call.of(made(world))));
    }

    void holds(String name, boolean due, Use world, Yes call) {
        alone(name, () -> check.is(name, due, call.of(made(world))));
    }

    void isFloat(String name, float due, Use world, Alike call) {
        alone(name, () -> check.isFloat(name, due, call.of(made(world))));
    }

    /** The call throws nothing. */
    void takes(String name, Use world, Use call) {
        alone(name, () -> call.of(made(world)));
    }

    /** The call throws just that, and an object where it was refused answers as one where it was never made. */
    void refuses(String name, Class<? extends RuntimeException> due, Use world, Use call) {
        alone(name, () -> {
            Reelrescue refused = made(world);
            check.throwsJust(name, due, () -> call.of(refused));
            String got = Probe.of(refused);
            String still = Probe.of(made(world));
            if (!got.equals(still)) {
                check.tell(name + " changed something: " + firstUnlike(still, got));
            }
        });
    }

    /** The first and the last number are taken; those beside them, and the farthest ones, are refused. */
    void range(String name, int least, int greatest, Class<? extends RuntimeException> due, Use world, Numbered call) {
        takes(name + ": " + least + ", the least one", world, x -> call.of(x, least));
        if (greatest != least) {
            takes(name + ": " + greatest + ", the greatest one", world, x -> call.of(x, greatest));
        }
        int below = least - 1;
        int above = greatest + 1;
        refuses(name + ": " + below + " is too small", due, world, x -> call.of(x, below));
        refuses(name + ": " + above + " is too large", due, world, x -> call.of(x, above));
        refuses(name + ": the least int is too small", due, world, x -> call.of(x, Integer.MIN_VALUE));
        refuses(name + ": the greatest int is too large", due, world, x -> call.of(x, Integer.MAX_VALUE));
    }

    void end() {
        check.end();
    }

    private void alone(String name, Runnable body) {
        if (!names.add(name)) {
            check.tell("two cases are named " + name);
        }
        try {
            body.run();
            check.is(name + " is checked", true, true);
        } catch (RuntimeException thrown) {
            check.tell(name + " threw " + thrown);
        }
    }

    private static Reelrescue made(Use world) {
        Reelrescue x = new Reelrescue();
        world.of(x);
        return x;
    }

    private static String firstUnlike(String due, String got) {
        String[] dueLines = due.split("\n");
        String[] gotLines = got.split("\n");
        int i = 0;
        while (i < dueLines.length - 1 && i < gotLines.length - 1 && dueLines[i].equals(gotLines[i])) {
            i++;
        }
        return "now " + gotLines[i] + ", without it " + dueLines[i];
    }
}
