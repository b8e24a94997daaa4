/** Promises 13 to 20: setDrum, addOrder, change, move, lay, run, turn, undo. */
public final class ActionTest {
    public static void main(String[] args) {
        setsDrum();
        addsOrders();
        changes();
        moves();
        laysByBribe();
        laysAtWantedPlaces();
        laysWithoutRoom();
        laysAgain();
        runsAsTold();
        runsForged();
        runsTooLong();
        runsMissing();
        keepsOrRefunds();
        turns();
        undoes();
        Check.end("ActionTest");
    }

    private static void numbers(Drum x, String when, int what, int... due) {
        for (int o = 0; o < due.length; o++) {
            Check.is(when + ": order " + o + " " + what, due[o], x.order(o, what));
        }
    }

    private static void setsDrum() {
        Drum x = Drum.loaded("D12o0101--50o1202--30");
        x.lay();
        x.turn(13);
        Check.is("setDrum(6)", 12, x.setDrum(6));
        Check.is("setDrum(40)", 6, x.setDrum(40));
        Check.is("setDrum(40) again", 40, x.setDrum(40));
        Check.is("places", 40, x.about(0));
        Check.is("the tick stays", 13, x.about(2));
        numbers(x, "no places", 5, -1, -1);
        numbers(x, "no delays", 6, -1, -1);
        numbers(x, "nothing open", 7, 0, 0);
        Check.is("all is refunded", 80, x.about(6));
        Check.is("refunded to 1", 30, x.author(1, 2));
        Check.fails("setDrum(5)", Check.ARGUMENT, x, () -> x.setDrum(5));
        Check.fails("setDrum(41)", Check.ARGUMENT, x, () -> x.setDrum(41));
        Check.is("remembered", 5, x.undoAll());
    }

    private static void addsOrders() {
        Drum x = new Drum();
        Check.is("addOrder", 0, x.addOrder(0, 1, -1, -1, 0));
        Check.is("addOrder", 1, x.addOrder(3, 9, 15, 15, 99));
        int[] due = {3, 9, 15, 15, 99, -1, -1, 0, -1};
        for (int what = 0; what < due.length; what++) {
            Check.is("added: " + what, due[what], x.order(1, what));
        }
        int[][] wrong = {{-1, 1, 0, 0, 0}, {4, 1, 0, 0, 0}, {0, 0, 0, 0, 0}, {0, 10, 0, 0, 0}, {0, 1, -2, 0, 0},
            {0, 1, 16, 0, 0}, {0, 1, 0, -2, 0}, {0, 1, 0, 16, 0}, {0, 1, 0, 0, -1}, {0, 1, 0, 0, 100}};
        for (int[] w : wrong) {
            Check.fails("addOrder of " + java.util.Arrays.toString(w), Check.ARGUMENT, x,
                    () -> x.addOrder(w[0], w[1], w[2], w[3], w[4]));
        }
        for (int o = 2; o < 16; o++) {
            Check.is("addOrder", o, x.addOrder(1, 2, 3, 4, 5));
        }
        Check.fails("a 17th order", Check.STATE, x, () -> x.addOrder(0, 1, 0, 0, 0));
        Check.fails("a wrong 17th order", Check.ARGUMENT, x, () -> x.addOrder(0, 1, 0, 0, 100));
        Check.is("undo of addOrder", 13, x.undo());
        Check.is("orders", 15, x.about(1));
        Check.is("addOrder again", 15, x.addOrder(2, 3, 4, 5, 6));
        Check.is("its author", 2, x.order(15, 0));
    }

    private static void changes() {
        Drum x = Drum.loaded("D12o1501--50o21----10");
        x.lay();
        int[][] right = {{0, 1, 3}, {0, 3, 0}, {1, 5, 1}, {1, 1, 9}, {2, 1, -1}, {2, -1, 15}, {3, -1, 15}, {3, 15, -1},
            {3, -1, 0}, {4, 50, 0}, {4, 0, 99}};
        for (int[] r : right) {
            Check.is("change(0, " + r[0] + ", " + r[2] + ")", r[1], x.change(0, r[0], r[2]));
            Check.is("changed", r[2], x.order(0, r[0]));
        }
        numbers(x, "what was paid stays open", 7, 50, 10);
        Check.is("paid stays", 50, x.author(1, 1));
        Check.is("the place stays", 0, x.order(0, 5));
        int[][] wrong = {{-1, 0}, {5, 0}, {0, -1}, {0, 4}, {1, 0}, {1, 10}, {2, -2}, {2, 16}, {3, -2}, {3, 16}, {4, -1},
            {4, 100}};
        for (int[] w : wrong) {
            Check.fails("change(0, " + w[0] + ", " + w[1] + ")", Check.ARGUMENT, x, () -> x.change(0, w[0], w[1]));
        }
        Check.fails("change(2, 0, 0)", Check.INDEX, x, () -> x.change(2, 0, 0));
        Check.fails("change(-1, 9, 9)", Check.INDEX, x, () -> x.change(-1, 9, 9));
        for (int i = right.length - 1; i >= 0; i--) {
            Check.is("undo", i + 1, x.undo());
            Check.is("change undone", right[i][1], x.order(0, right[i][0]));
        }
        Check.is("remembered", 1, x.undoAll());
    }

    private static void moves() {
        Drum x = Drum.loaded("D12o11----50o21----10o31----00");
        Check.is("onto the drum", 0, x.move(2, 11));
        Check.is("at 11", 2, x.at(11));
        x.lay();
        Check.is("with an open bribe", 10, x.move(1, 6));
        numbers(x, "moved", 5, 0, 6, 2);
        numbers(x, "moved", 6, 0, -1, 2);
        numbers(x, "moved", 7, 50, 0, 0);
        Check.is("refunded", 10, x.author(2, 2));
        Check.is("left", -1, x.at(1));
        Check.is("again", 0, x.move(1, 7));
        Check.is("to its own place", 50, x.move(0, 0));
        numbers(x, "to its own place", 6, -1, -1, 2);
        Check.fails("onto another", Check.STATE, x, () -> x.move(0, 7));
        Check.fails("to no place", Check.INDEX, x, () -> x.move(0, 12));
        Check.fails("to place -1", Check.INDEX, x, () -> x.move(0, -1));
        Check.fails("no order", Check.INDEX, x, () -> x.move(3, 7));
        Check.fails("order -1", Check.INDEX, x, () -> x.move(-1, 0));
        Check.is("remembered", 5, x.undoAll());
    }

    private static void laid(String program, int sum, int... places) {
        Drum x = Drum.loaded(program);
        Check.is("lay of " + program, sum, x.lay());
        numbers(x, program, 5, places);
    }

    private static void laysByBribe() {
        laid("D12", 0);
        laid("D12o01----10o01----10o01----10", 3, 0, 1, 2);
        laid("D12o01----10o01----30o01----20", 3, 2, 0, 1);
        laid("D12o01----00o01----99o01----00", 3, 1, 0, 2);
        Drum x = Drum.loaded("D12o01----10o01----30o01----20");
        x.lay();
        numbers(x, "delays", 6, 2, 0, 1);
        numbers(x, "open", 7, 10, 30, 20);
    }

    private static void laysAtWantedPlaces() {
        // behind the one before
        laid("D12o0301--50o01----30", 0, 0, 4);
        laid("D06o0901--50o01----30", 0, 0, 4);
        // ahead of its next one
        laid("D12o0301--50o01----60", 0, 8, 0);
        laid("D06o0901--50o01----60", 0, 2, 0);
        // of several before, the one with the lowest number, though the other was laid first
        laid("D12o0102--20o0502--30o01----10", 1, 1, 0, 3);
        // one before goes ahead of its own next one
        laid("D12o0202--40o01----50o0101--30", 1, 1, 0, 4);
        // itself does not count
        laid("D12o0500--40", 0, 0);
        laid("D12o0115--40", 0, 0);
        // going around: 3 wants the last place, but 10, 0 and 1 are taken
        laid("D11o0901--50o01----40o0803--30o01----20", 4, 0, 10, 1, 2);
    }

    private static void laysWithoutRoom() {
        Drum x = Drum.loaded("D06" + "o11----10".repeat(6) + "o21----10o31----50");
        Check.is("lay without room", 0 + 1 + 2 + 3 + 4 + 5, x.lay());
        numbers(x, "without room", 5, 1, 2, 3, 4, 5, -1, -1, 0);
        numbers(x, "without room", 6, 1, 2, 3, 4, 5, -1, -1, 0);
        numbers(x, "without room", 7, 10, 10, 10, 10, 10, 0, 0, 50);
        Check.is("who got no place pays nothing", 0, x.author(2, 1));
        Check.is("paid", 100, x.about(5));
    }

    private static void laysAgain() {
        Drum x = Drum.loaded("D12o11----50o21----10");
        x.lay();
        x.change(0, 4, 5);
        Check.is("lay again", 1, x.lay());
        numbers(x, "again", 5, 1, 0);
        numbers(x, "again", 7, 5, 10);
        Check.is("refunded", 60, x.about(6));
        Check.is("paid by 1", 55, x.author(1, 1));
        Check.is("refunded to 1", 50, x.author(1, 2));
        Check.is("undo", 2, x.undo());
        Check.is("undone", 0, x.about(6));
    }

    private static void runsAsTold() {
        Drum x = Drum.loaded("D12o0301--50o1202--30o21--0120");
        x.lay();
        x.turn(7);
        Check.is("run(0)", 0, x.run(0));
        Check.is("the tick", 21, x.about(2));
        numbers(x, "waits", 8, 5, 0, 0);
        numbers(x, "the first one's bribe stays open", 7, 50, 0, 0);
        Check.is("run(2), begun with, is not forged", 0, x.run(2));
        Check.is("the tick", 33, x.about(2));
        numbers(x, "waits", 8, 5, 0, 10);
        Check.fails("run(3)", Check.INDEX, x, () -> x.run(3));
        Check.fails("run(-1)", Check.INDEX, x, () -> x.run(-1));
    }

    private static void runsForged() {
        Drum x = Drum.loaded("D12o0301--50o1202--30o21--0020");
        x.lay();
        Check.is("forged", 1, x.run(0));
        Check.is("the tick", 7, x.about(2));
        numbers(x, "what is forged is not read", 8, 0, 0, -1);
        numbers(x, "what is forged keeps open", 7, 50, 0, 20);
        Check.is("the forged jump is noted", 2, x.jump(1, 1));
        x.change(0, 2, 0);
        x.change(0, 3, 5);
        Check.is("forged by itself", 1, x.run(0));
        x.change(0, 3, 0);
        Check.is("expects itself", 2, x.run(0));
        x.setDrum(12);
        x.move(0, 0);
        x.change(0, 2, 2);
        x.change(2, 3, 1);
        Check.is("missing goes ahead of forged", 3, x.run(0));
    }

    private static void runsTooLong() {
        Drum x = Drum.loaded("D12o0900--50");
        x.move(0, 11);
        Check.is("too long", 2, x.run(0));
        Check.is("99 are read", 1197, x.about(2));
        Check.is("99 jumps", 99, x.jump(0, 2));
        // 97 orders back and forth, then a 98th and 99th, then the end
        Drum y = Drum.loaded("D06o0101--00o0100--00");
        y.lay();
        Check.is("too long in a ring of two", 2, y.run(0));
        Check.is("jumps there", 50, y.jump(0, 2));
        Check.is("jumps back", 49, y.jump(1, 2));
        Drum z = Drum.loaded("D06o0100--00");
        z.lay();
        z.change(0, 3, 3);
        Check.is("forged at once", 1, z.run(0));
    }

    private static void runsMissing() {
        Drum x = Drum.loaded("D12o0101--50o1202--30");
        Check.is("without a place", 3, x.run(0));
        Check.is("the tick stays", 0, x.about(2));
        Check.is("no jump", 0, x.about(8));
        Check.is("not read", -1, x.order(0, 8));
        x.lay();
        Check.is("no such order", 3, x.run(0));
        Check.is("the jump there is noted", 2, x.jump(1, 1));
        Check.is("the tick", 5, x.about(2));
        Check.is("told by about", 3, x.about(9));
    }

    private static void keepsOrRefunds() {
        // 1 is laid at 2, right behind 0, and waited for not at all
        Drum x = Drum.loaded("D12o0101--50o1102--30o21----20");
        x.lay();
        x.run(0);
        numbers(x, "kept", 7, 50, 0, 0);
        Check.is("nothing refunded", 0, x.about(6));
        // a greater work of 0 makes 1 late
        Drum y = Drum.loaded("D12o0101--50o1102--30o21----20");
        y.lay();
        y.change(0, 1, 2);
        y.change(1, 4, 99);
        y.change(1, 0, 3);
        y.run(0);
        numbers(y, "late", 8, 0, 11, 0);
        numbers(y, "late", 7, 50, 0, 0);
        Check.is("refunded is what was paid", 30, y.about(6));
        Check.is("refunded to the author of now", 30, y.author(3, 2));
        // begun with, also when late, it stays open
        Drum z = Drum.loaded("D12o0100--50");
        z.lay();
        z.turn(3);
        z.change(0, 2, -1);
        z.run(0);
        Check.is("waited", 9, z.order(0, 8));
        Check.is("open", 50, z.order(0, 7));
        z.change(0, 2, 0);
        z.run(0);
        Check.is("come to by itself", 0, z.order(0, 7));
        Check.is("refunded", 50, z.author(0, 2));
        z.run(0);
        Check.is("refunded once", 50, z.author(0, 2));
    }

    private static void turns() {
        Drum x = new Drum();
        Check.is("turn(1)", 1, x.turn(1));
        Check.is("turn(99)", 4, x.turn(99));
        Check.is("the tick", 100, x.about(2));
        Check.is("turn(8)", 0, x.turn(8));
        Check.fails("turn(0)", Check.ARGUMENT, x, () -> x.turn(0));
        Check.fails("turn(100)", Check.ARGUMENT, x, () -> x.turn(100));
        Check.fails("turn(-1)", Check.ARGUMENT, x, () -> x.turn(-1));
        Check.is("remembered", 3, x.undoAll());
        Check.is("the tick", 0, x.about(2));
    }

    private static void undoes() {
        Drum x = Drum.loaded("D12o0101--50o1102--30");
        String[] views = new String[9];
        views[0] = x.view();
        x.lay();
        views[1] = x.view();
        x.run(0);
        views[2] = x.view();
        x.turn(5);
        views[3] = x.view();
        x.move(0, 9);
        views[4] = x.view();
        x.change(1, 2, 1);
        views[5] = x.view();
        x.addOrder(1, 2, 3, 4, 5);
        views[6] = x.view();
        x.run(1);
        views[7] = x.view();
        x.setDrum(9);
        views[8] = x.view();
        for (int i = 7; i >= 0; i--) {
            Check.is("undo", i, x.undo());
            Check.is("undone", views[i], x.view());
        }
        Check.fails("nothing to undo", Check.STATE, x, x::undo);
        undoesFourteen();
        undoesJumps();
    }

    private static void undoesJumps() {
        Drum x = Drum.loaded("D12o0101--50o11----30");
        x.lay();
        x.run(0);
        x.run(0);
        Check.is("twice", 2, x.jump(0, 2));
        x.undo();
        Check.is("once", 1, x.jump(0, 2));
        x.undo();
        Check.is("not at all", -1, x.jump(0, 2));
        x.change(1, 2, 0);
        x.run(1);
        Check.is("another jump first", 1, x.jump(0, 0));
    }

    private static void undoesFourteen() {
        Drum x = new Drum();
        for (int i = 1; i <= 17; i++) {
            x.turn(i);
        }
        Check.is("undo", 13, x.undo());
        Check.is("the tick", 136, x.about(2));
        x.setDrum(12);
        Check.is("undo of what changes nothing", 13, x.undo());
        Check.is("thirteen more", 13, x.undoAll());
        Check.is("the oldest are forgotten", 6, x.about(2));
        x.turn(1);
        Check.is("one is remembered", 0, x.undo());
        x.write("D12");
        x.turn(1);
        x.undo();
        Check.is("undo leaves the text", 3, x.clearText());
    }
}
