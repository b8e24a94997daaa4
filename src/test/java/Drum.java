import java.util.ArrayList;
import java.util.List;

/**
 * A ProgramDrum that keeps a list of its calls, so that a test can look at a second one that has lived through
 * the same: looking costs the first one no call, and may spoil the second one. No object gets a 513th call.
 */
final class Drum {
    private static final int MOST_CALLS = 512;
    private static final int MOST_REMEMBERED = 14;

    private record Done(String name, long[] a) {
    }

    private final ProgramDrum drum = new ProgramDrum();
    private final List<Done> done = new ArrayList<>();

    static Drum loaded(String program) {
        Drum x = new Drum();
        x.write(program);
        x.load();
        return x;
    }

    void write(String text) {
        for (char c : text.toCharArray()) {
            append(c);
        }
    }

    int calls() {
        return done.size();
    }

    int call(String name, long... a) {
        if (done.size() >= MOST_CALLS) {
            throw new AssertionError("a test makes a 513th call: " + name);
        }
        done.add(new Done(name, a));
        return Calls.call(drum, name, a);
    }

    /** Another drum that has lived through the same calls. */
    Drum twin() {
        Drum twin = new Drum();
        for (Done d : done) {
            Check.answer(() -> twin.call(d.name, d.a));
        }
        return twin;
    }

    /** Everything that the drum tells at once, but for what would be. */
    String view() {
        return twin().spoilingView();
    }

    private String spoilingView() {
        StringBuilder view = new StringBuilder("about");
        for (int what = 1; what <= 9; what++) {
            view.append(' ').append(about(what));
        }
        int orders = about(1);
        for (int o = 0; o < orders; o++) {
            view.append("\norder ").append(o).append(':');
            for (int what = 0; what <= 8; what++) {
                view.append(' ').append(order(o, what));
            }
        }
        for (int a = 0; a < 4; a++) {
            view.append("\nauthor ").append(a).append(':');
            for (int what = 0; what <= 2; what++) {
                view.append(' ').append(author(a, what));
            }
        }
        int places = about(0);
        view.append("\nat:");
        for (int place = 0; place < places; place++) {
            view.append(' ').append(at(place));
        }
        for (int i = 0; jump(i, 0) != ProgramDrum.NONE; i++) {
            view.append("\njump ").append(jump(i, 0)).append(' ').append(jump(i, 1)).append(' ').append(jump(i, 2));
        }
        return view.append("\ntext ").append(errorPosition()).append('\n').toString();
    }

    /** The view, and all that is kept behind it: the text, the remembered states, the save slots. */
    String whole() {
        StringBuilder whole = new StringBuilder(view());
        whole.append("length ").append(twin().clearText());
        whole.append("\nloaded ").append(behind("load"));
        for (int slot = 0; slot <= 1; slot++) {
            whole.append("\nslot ").append(slot).append(": ").append(behind("restore", slot));
        }
        Drum undone = this;
        for (int i = 0; i <= MOST_REMEMBERED; i++) {
            undone = undone.twin();
            String answer = Check.answer(undone::undo);
            whole.append("\nundo: ").append(answer);
            if (answer.startsWith("throws")) {
                break;
            }
            whole.append(' ').append(undone.view());
        }
        return whole.toString();
    }

    private String behind(String name, long... a) {
        Drum twin = twin();
        String answer = Check.answer(() -> twin.call(name, a));
        return answer + " " + twin.view();
    }

    /** How many states are remembered; all of them are undone then. */
    int undoAll() {
        int undone = 0;
        while (!Check.answer(this::undo).startsWith("throws")) {
            undone++;
        }
        return undone;
    }

    int append(int c) {
        return call("append", c);
    }

    int clearText() {
        return call("clearText");
    }

    int errorPosition() {
        return call("errorPosition");
    }

    int load() {
        return call("load");
    }

    int about(int what) {
        return call("about", what);
    }

    int order(int o, int what) {
        return call("order", o, what);
    }

    int author(int a, int what) {
        return call("author", a, what);
    }

    int at(int place) {
        return call("at", place);
    }

    int jump(int i, int what) {
        return call("jump", i, what);
    }

    int chain(int o) {
        return call("chain", o);
    }

    int ring(int o) {
        return call("ring", o);
    }

    int setDrum(int places) {
        return call("setDrum", places);
    }

    int addOrder(int author, int work, int next, int expects, int bribe) {
        return call("addOrder", author, work, next, expects, bribe);
    }

    int change(int o, int what, int v) {
        return call("change", o, what, v);
    }

    int move(int o, int place) {
        return call("move", o, place);
    }

    int lay() {
        return call("lay");
    }

    int run(int o) {
        return call("run", o);
    }

    int turn(int ticks) {
        return call("turn", ticks);
    }

    int undo() {
        return call("undo");
    }

    int waits(int o) {
        return call("waits", o);
    }

    int time(int o) {
        return call("time", o);
    }

    int bestPlace(int o, int start) {
        return call("bestPlace", o, start);
    }

    int leastBribe(int o) {
        return call("leastBribe", o);
    }

    int saves(int start) {
        return call("saves", start);
    }

    int runScript(int n, long script) {
        return call("runScript", n, script);
    }

    int simulate(long seed, int m) {
        return call("simulate", seed, m);
    }

    int save(int slot) {
        return call("save", slot);
    }

    int restore(int slot) {
        return call("restore", slot);
    }
}
