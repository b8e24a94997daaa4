/** Promises 2 to 5: append, clearText, errorPosition, load. */
public final class TextTest {
    private static final String ORDER = "o01----00";

    public static void main(String[] args) {
        appends();
        clears();
        findsErrorsInHead();
        findsErrorsInOrders();
        findsErrorsBehindSixteenOrders();
        loads();
        loadForgets();
        refusesToLoad();
        Check.end("TextTest");
    }

    private static void appends() {
        Drum x = new Drum();
        Check.is("append(0)", 1, x.append(0));
        Check.is("append(255)", 2, x.append(255));
        Check.fails("append(-1)", Check.ARGUMENT, x, () -> x.append(-1));
        Check.fails("append(256)", Check.ARGUMENT, x, () -> x.append(256));
        for (int length = 3; length <= 160; length++) {
            Check.is("append up to " + length, length, x.append('o'));
        }
        Check.fails("append to a full text", Check.STATE, x, () -> x.append('o'));
        Check.fails("append(256) to a full text", Check.ARGUMENT, x, () -> x.append(256));
        Check.is("length of a full text", 160, x.clearText());
        Check.is("append is no action", 0, x.undoAll());
    }

    private static void clears() {
        Drum x = new Drum();
        Check.is("clearText of nothing", 0, x.clearText());
        x.write("D12");
        Check.is("clearText", 3, x.clearText());
        Check.is("clearText again", 0, x.clearText());
        Check.is("append behind it", 1, x.append('D'));
    }

    private static void error(String text, int due) {
        Drum x = new Drum();
        x.write(text);
        Check.is("errorPosition of " + text, due, x.errorPosition());
        Check.is("text stays " + text, text.length(), x.clearText());
    }

    private static void findsErrorsInHead() {
        error("", 0);
        error("d12", 0);
        error(" D12", 0);
        error("D", 1);
        error("D5", 1);
        error("D/", 1);
        error("D-", 1);
        error("D0", 2);
        error("D4", 2);
        error("D05", 2);
        error("D06", -1);
        error("D09", -1);
        error("D10", -1);
        error("D39", -1);
        error("D40", -1);
        error("D41", 2);
        error("D1:", 2);
        error("D1/", 2);
        error("D12 ", 3);
        error("D12O", 3);
        error("D120", 3);
        error("D12D12", 3);
    }

    private static void findsErrorsInOrders() {
        error("D12o", 4);
        error("D12o4", 4);
        error("D12o/", 4);
        error("D12o-", 4);
        error("D12o3", 5);
        error("D12o30", 5);
        error("D12o39", 6);
        error("D12o3:", 5);
        error("D12o112", 6);
        error("D12o110", 7);
        error("D12o1109", 8);
        error("D12o110-", 7);
        error("D12o111", 7);
        error("D12o1115", 8);
        error("D12o1116", 7);
        error("D12o111-", 7);
        error("D12o11-", 7);
        error("D12o11-0", 7);
        error("D12o11--", 8);
        error("D12o11--2", 8);
        error("D12o11--15", 10);
        error("D12o11--16", 9);
        error("D12o11---", 9);
        error("D12o11---5", 9);
        error("D12o11----", 10);
        error("D12o11-----", 10);
        error("D12o11----9", 11);
        error("D12o11----9x", 11);
        error("D12o11----99", -1);
        error("D12o1115150o", 11);
        error("D12o11151500", -1);
        error("D12o11151500x", 12);
        error("D12o11151500o", 13);
        error("D12o11151500oo", 13);
    }

    private static void findsErrorsBehindSixteenOrders() {
        error("D12" + ORDER.repeat(16), -1);
        error("D12" + ORDER.repeat(15) + "o01----0", 146);
        error("D12" + ORDER.repeat(16) + "o", 147);
        error("D12" + ORDER.repeat(17), 147);
        error("D12" + ORDER.repeat(17) + "ooxx", 147);
    }

    private static void loads() {
        Drum x = Drum.loaded("D40o39150099o01--1500");
        Check.is("places", 40, x.about(0));
        Check.is("orders", 2, x.about(1));
        int[][] due = {{3, 9, 15, 0, 99, -1, -1, 0, -1}, {0, 1, -1, 15, 0, -1, -1, 0, -1}};
        for (int o = 0; o < 2; o++) {
            for (int what = 0; what < 9; what++) {
                Check.is("order " + o + " " + what, due[o][what], x.order(o, what));
            }
        }
        Check.is("load of a program without orders", 0, loadOf("D06"));
        Check.is("load of sixteen orders", 16, loadOf("D12" + ORDER.repeat(16)));
        Check.is("load again", 2, x.load());
        Check.is("the text is kept", 21, x.clearText());
    }

    private static int loadOf(String program) {
        Drum x = new Drum();
        x.write(program);
        return x.load();
    }

    private static void loadForgets() {
        Drum x = Drum.loaded("D12o0101--50o0200--30");
        String fresh = x.view();
        x.lay();
        x.run(0);
        x.turn(1);
        x.setDrum(7);
        x.lay();
        x.addOrder(0, 1, 0, 0, 0);
        x.save(0);
        x.save(1);
        Check.is("load", 2, x.load());
        Check.is("all is as fresh", fresh, x.view());
        Check.is("no state is remembered", "throws IllegalStateException", Check.answer(x::undo));
        Check.is("slot 0 is empty", "throws IllegalStateException", Check.answer(() -> x.restore(0)));
        Check.is("slot 1 is empty", "throws IllegalStateException", Check.answer(() -> x.restore(1)));
        x.lay();
        x.clearText();
        x.write("D12");
        Check.is("load of fewer orders", 0, x.load());
        Check.is("nothing is open", 0, x.about(7));
        Check.is("nothing is refunded", 0, x.about(6));
    }

    private static void refusesToLoad() {
        Drum x = Drum.loaded("D12o0101--50");
        x.lay();
        x.save(1);
        x.append('x');
        Check.fails("load of no program", Check.STATE, x, x::load);
        Check.is("the slot stays", 1, x.restore(1));
        x.clearText();
        Check.fails("load of no text", Check.STATE, x, x::load);
    }
}
