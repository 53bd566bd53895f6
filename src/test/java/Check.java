/** Compares answers with what is due, prints those that differ and counts them. */
final class Check {
    interface Call {
        void run();
    }

    private int checked = 0;
    private int wrong = 0;

    void is(String what, long due, long got) {
        checked++;
        if (got != due) {
            tell(what + " answered " + got + ", due is " + due);
        }
    }

    void is(String what, boolean due, boolean got) {
        is(what, due ? 1 : 0, got ? 1 : 0);
    }

    void isFloat(String what, float due, float got) {
        checked++;
        if (Float.floatToIntBits(got) != Float.floatToIntBits(due)) {
            tell(what + " answered " + got + ", due is " + due);
        }
    }

    void noSuch(String what, Call call) {
        throwsJust(what, IndexOutOfBoundsException.class, call);
    }

    void outOfRange(String what, Call call) {
        throwsJust(what, IllegalArgumentException.class, call);
    }

    void notNow(String what, Call call) {
        throwsJust(what, IllegalStateException.class, call);
    }

    void throwsJust(String what, Class<? extends RuntimeException> due, Call call) {
        checked++;
        try {
            call.run();
            tell(what + " threw nothing, due is " + due.getName());
        } catch (RuntimeException thrown) {
            // The very class: the machine's own exceptions are classes below the documented ones.
            if (thrown.getClass() != due) {
                tell(what + " threw " + thrown + ", due is " + due.getName());
            }
        }
    }

    void tell(String fault) {
        wrong++;
        System.out.println(fault);
    }

    void end() {
        System.out.println(checked + " checked, " + wrong + " wrong");
        if (wrong != 0) {
            System.exit(1);
        }
    }
}
