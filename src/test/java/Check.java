import java.util.function.IntConsumer;

/** Counts the answers that are not as due; a test ends with exit code 1 if there was one. */
final class Check {
    private static int wrong = 0;
    private static int checks = 0;

    private Check() {
    }

    static void same(String call, long got, long due) {
        checks++;
        if (got != due) {
            tell(call + " answered " + got + ", due is " + due);
        }
    }

    static void same(String call, boolean got, boolean due) {
        checks++;
        if (got != due) {
            tell(call + " answered " + got + ", due is " + due);
        }
    }

    static void sameFloat(String call, float got, float due) {
        checks++;
        if (Float.floatToIntBits(got) != Float.floatToIntBits(due)) {
            tell(call + " answered " + got + ", due is " + due);
        }
    }

    static void sameText(String call, String got, String due) {
        checks++;
        if (!got.equals(due)) {
            tell(call + " answered " + got + ", due is " + due);
        }
    }

    /** The very class is asked for: what the machine throws is often a class below it. */
    static void refused(String call, Class<? extends RuntimeException> due, Runnable run) {
        checks++;
        try {
            run.run();
        } catch (RuntimeException e) {
            if (e.getClass() != due) {
                tell(call + " threw " + e.getClass().getName() + ", due is " + due.getName());
            }
            return;
        }
        tell(call + " threw nothing, due is " + due.getName());
    }

    static void noIndex(String call, Runnable run) {
        refused(call, IndexOutOfBoundsException.class, run);
    }

    static void noArgument(String call, Runnable run) {
        refused(call, IllegalArgumentException.class, run);
    }

    static void noState(String call, Runnable run) {
        refused(call, IllegalStateException.class, run);
    }

    /** Tries numbers below 0 and behind the last of the things that exist. */
    static void noSuch(String call, int number, IntConsumer run) {
        for (int index : new int[] {-1, number, number + 1, Integer.MAX_VALUE, Integer.MIN_VALUE}) {
            noIndex(call + " of " + index, () -> run.accept(index));
        }
    }

    /** Tries arguments on both sides of a range, near to it and far from it. */
    static void outOfRange(String call, int lowest, int highest, IntConsumer run) {
        for (int argument : new int[] {lowest - 1, highest + 1, Integer.MAX_VALUE, Integer.MIN_VALUE}) {
            noArgument(call + " with " + argument, () -> run.accept(argument));
        }
    }

    static void tell(String what) {
        wrong++;
        if (wrong <= 50) {
            System.out.println("WRONG: " + what);
        }
    }

    static void end() {
        System.out.println(checks + " checks, " + wrong + " wrong");
        if (wrong != 0) {
            System.exit(1);
        }
    }
}
