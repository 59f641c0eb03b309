/** Compares what calls answer with what is due, and counts. */
final class Due {
    interface Call {
        long answer();
    }

    private static int passed = 0;
    private static int failed = 0;

    private Due() {
    }

    static void is(String call, long want, Call made) {
        String got;
        try {
            got = Long.toString(made.answer());
        } catch (RuntimeException e) {
            got = e.getClass().getName();
        }
        compare(call, Long.toString(want), got);
    }

    static void holds(String call, boolean made) {
        compare(call, "true", Boolean.toString(made));
    }

    /** Wants exactly this class: what the machine throws is of a class below it. */
    static void isThrown(String call, Class<? extends RuntimeException> want, Call made) {
        String got;
        try {
            got = Long.toString(made.answer());
        } catch (RuntimeException e) {
            got = e.getClass().getName();
        }
        compare(call, want.getName(), got);
    }

    static void noSuch(String call, Call made) {
        isThrown(call, IndexOutOfBoundsException.class, made);
    }

    static void outOfRange(String call, Call made) {
        isThrown(call, IllegalArgumentException.class, made);
    }

    static void notNow(String call, Call made) {
        isThrown(call, IllegalStateException.class, made);
    }

    static void compare(String call, String want, String got) {
        if (want.equals(got)) {
            passed++;
        } else {
            failed++;
            System.out.println(call + " answered " + got + ", due is " + want);
        }
    }

    /** How many answers were compared up to now. */
    static int compared() {
        return passed + failed;
    }

    static void end(String test) {
        System.out.println(test + ": " + passed + " as due, " + failed + " not as due");
        if (failed > 0) {
            System.exit(1);
        }
    }
}
