import java.util.function.Supplier;

/** What the tests share: counting of wrong answers, and calls that must be refused. */
final class Check {
    static final Class<? extends Exception> INDEX = IndexOutOfBoundsException.class;
    static final Class<? extends Exception> ARGUMENT = IllegalArgumentException.class;
    static final Class<? extends Exception> STATE = IllegalStateException.class;

    private static int wrong = 0;
    private static int checks = 0;

    private Check() {
    }

    static void is(String what, Object due, Object got) {
        checks++;
        if (!due.equals(got)) {
            wrong++;
            System.out.println(what + ": answered " + got + ", due is " + due);
        }
    }

    /** The call must throw just this exception and leave all of the drum as it was. */
    static void fails(String what, Class<? extends Exception> due, Drum x, Supplier<Integer> call) {
        String before = x.whole();
        is(what, "throws " + due.getSimpleName(), answer(call));
        is(what + " changes nothing", before, x.whole());
    }

    static String answer(Supplier<Integer> call) {
        try {
            return "" + call.get();
        } catch (RuntimeException e) {
            return "throws " + e.getClass().getSimpleName();
        }
    }

    static void end(String test) {
        System.out.println(test + ": " + checks + " checks, " + wrong + " wrong");
        if (wrong != 0 || checks == 0) {
            System.exit(1);
        }
    }
}
