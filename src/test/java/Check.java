import java.util.function.Supplier;

/** What the tests share: counting of wrong answers, and a view of all that an object tells. */
final class Check {
    static final Class<? extends Exception> INDEX = IndexOutOfBoundsException.class;
    static final Class<? extends Exception> ARGUMENT = IllegalArgumentException.class;
    static final Class<? extends Exception> STATE = IllegalStateException.class;

    private static int wrong = 0;
    private static int checks = 0;

    private Check() {
    }

    static void is(String what, Object due, Object got) {
        checks++;
        if (!due.equals(got)) {
            wrong++;
            System.out.println(what + ": answered " + got + ", due is " + due);
        }
    }

    /** The call must throw just this exception and leave all that the object tells as it was. */
    static void fails(String what, Class<? extends Exception> due, ProgramDrum x, Supplier<Integer> call) {
        String before = view(x);
        is(what, "throws " + due.getSimpleName(), answer(call));
        is(what + " changes nothing", before, view(x));
    }

    static String answer(Supplier<Integer> call) {
        try {
            return "" + call.get();
        } catch (RuntimeException e) {
            return "throws " + e.getClass().getSimpleName();
        }
    }

    /** Everything that an object tells without being changed, but for what would be. */
    static String view(ProgramDrum x) {
        StringBuilder view = new StringBuilder("about");
        for (int what = 0; what <= 9; what++) {
            view.append(' ').append(x.about(what));
        }
        for (int o = 0; o < x.about(1); o++) {
            view.append("\norder ").append(o).append(':');
            for (int what = 0; what <= 8; what++) {
                view.append(' ').append(x.order(o, what));
            }
        }
        for (int a = 0; a < 4; a++) {
            view.append("\nauthor ").append(a).append(':');
            for (int what = 0; what <= 2; what++) {
                view.append(' ').append(x.author(a, what));
            }
        }
        view.append("\nat:");
        for (int place = 0; place < x.about(0); place++) {
            view.append(' ').append(x.at(place));
        }
        for (int i = 0; i < x.about(8); i++) {
            view.append("\njump ").append(x.jump(i, 0)).append(' ').append(x.jump(i, 1)).append(' ').append(x.jump(i, 2));
        }
        return view.append("\ntext ").append(x.errorPosition()).append('\n').toString();
    }

    static ProgramDrum loaded(String program) {
        ProgramDrum x = new ProgramDrum();
        write(x, program);
        x.load();
        return x;
    }

    static void write(ProgramDrum x, String text) {
        for (char c : text.toCharArray()) {
            x.append(c);
        }
    }

    /** Undoes all that is remembered; returns how many states that were. */
    static int undoAll(ProgramDrum x) {
        int undone = 0;
        while (!answer(x::undo).startsWith("throws")) {
            undone++;
        }
        return undone;
    }

    static void end(String test) {
        System.out.println(test + ": " + checks + " checks, " + wrong + " wrong");
        if (wrong != 0 || checks == 0) {
            System.exit(1);
        }
    }
}
