/** Promises 1 and 6 to 12: a new object, about, order, author, at, jump, chain, ring. */
public final class LookTest {
    /** Laid at 0, 4 and 7; a run from 0 waits for none, but 2 expects to come from 0. */
    private static final String LINE = "D12o0301--50o1202--30o21--0020";

    public static void main(String[] args) {
        isNew();
        tellsAbout();
        tellsOfOrders();
        tellsOfAuthors();
        tellsWhatStandsWhere();
        tellsJumps();
        tellsChainsAndRings();
        Check.end("LookTest");
    }

    private static void isNew() {
        Drum x = new Drum();
        int[] due = {12, 0, 0, 0, 0, 0, 0, 0, 0, -1};
        for (int what = 0; what < due.length; what++) {
            Check.is("new: about " + what, due[what], x.about(what));
        }
        for (int a = 0; a < 4; a++) {
            for (int what = 0; what < 3; what++) {
                Check.is("new: author", 0, x.author(a, what));
            }
        }
        for (int place = 0; place < 12; place++) {
            Check.is("new: at", -1, x.at(place));
        }
        Check.is("new: jump", -1, x.jump(0, 0));
        Check.is("new: text", 0, x.clearText());
        Check.fails("new: undo", Check.STATE, x, x::undo);
        Check.fails("new: restore 0", Check.STATE, x, () -> x.restore(0));
        Check.fails("new: restore 1", Check.STATE, x, () -> x.restore(1));
        Check.is("NONE", -1, ProgramDrum.NONE);
    }

    private static void about(Drum x, String when, int... due) {
        for (int what = 0; what < due.length; what++) {
            Check.is(when + ": about " + what, due[what], x.about(what));
        }
    }

    private static void tellsAbout() {
        Drum x = Drum.loaded(LINE);
        x.lay();
        about(x, "laid", 12, 3, 0, 0, 3, 100, 0, 100, 0, -1);
        x.run(0);
        about(x, "forged", 12, 3, 7, 7, 3, 100, 0, 70, 2, 1);
        x.change(2, 3, 1);
        x.run(0);
        about(x, "told", 12, 3, 21, 9, 3, 100, 0, 50, 2, 0);
        x.lay();
        about(x, "laid again", 12, 3, 21, 9, 3, 200, 50, 100, 2, 0);
        x.turn(1);
        x.run(0);
        about(x, "told again", 12, 3, 33, 9, 3, 200, 50, 50, 2, 0);
        x.setDrum(10);
        about(x, "another drum", 10, 3, 33, 3, 0, 200, 100, 0, 2, 0);
        x.run(1);
        about(x, "missing", 10, 3, 33, 3, 0, 200, 100, 0, 2, 3);
        Check.fails("about(-1)", Check.ARGUMENT, x, () -> x.about(-1));
        Check.fails("about(10)", Check.ARGUMENT, x, () -> x.about(10));
    }

    private static void order(Drum x, String when, int o, int... due) {
        for (int what = 0; what < due.length; what++) {
            Check.is(when + ": order " + o + " " + what, due[what], x.order(o, what));
        }
    }

    private static void tellsOfOrders() {
        Drum x = Drum.loaded(LINE);
        order(x, "loaded", 2, 2, 1, -1, 0, 20, -1, -1, 0, -1);
        x.lay();
        order(x, "laid", 0, 0, 3, 1, -1, 50, 0, 0, 50, -1);
        order(x, "laid", 2, 2, 1, -1, 0, 20, 7, 0, 20, -1);
        x.turn(1);
        x.run(0);
        order(x, "run", 0, 0, 3, 1, -1, 50, 0, 0, 50, 11);
        order(x, "run", 1, 1, 2, 2, -1, 30, 4, 0, 0, 0);
        order(x, "forged is not read", 2, 2, 1, -1, 0, 20, 7, 0, 20, -1);
        x.run(1);
        order(x, "run", 1, 1, 2, 2, -1, 30, 4, 0, 0, 9);
        x.move(2, 7);
        order(x, "moved to its own place", 2, 2, 1, -1, 0, 20, 7, -1, 0, -1);
        x.setDrum(12);
        order(x, "the drum changed", 0, 0, 3, 1, -1, 50, -1, -1, 0, 11);
        Check.fails("order(3, 0)", Check.INDEX, x, () -> x.order(3, 0));
        Check.fails("order(-1, 0)", Check.INDEX, x, () -> x.order(-1, 0));
        Check.fails("order(3, 9)", Check.INDEX, x, () -> x.order(3, 9));
        Check.fails("order(0, 9)", Check.ARGUMENT, x, () -> x.order(0, 9));
        Check.fails("order(0, -1)", Check.ARGUMENT, x, () -> x.order(0, -1));
    }

    private static void tellsOfAuthors() {
        Drum x = Drum.loaded("D12o01----50o01----30o31----20");
        x.lay();
        int[][] laid = {{2, 80, 0}, {0, 0, 0}, {0, 0, 0}, {1, 20, 0}};
        authors(x, "laid", laid);
        x.change(1, 0, 2);
        int[][] given = {{1, 80, 0}, {0, 0, 0}, {1, 0, 0}, {1, 20, 0}};
        authors(x, "a new author", given);
        x.setDrum(12);
        int[][] refunded = {{1, 80, 50}, {0, 0, 0}, {1, 0, 30}, {1, 20, 20}};
        authors(x, "refunded", refunded);
        Check.fails("author(4, 0)", Check.INDEX, x, () -> x.author(4, 0));
        Check.fails("author(-1, 3)", Check.INDEX, x, () -> x.author(-1, 3));
        Check.fails("author(0, 3)", Check.ARGUMENT, x, () -> x.author(0, 3));
        Check.fails("author(3, -1)", Check.ARGUMENT, x, () -> x.author(3, -1));
    }

    private static void authors(Drum x, String when, int[][] due) {
        for (int a = 0; a < 4; a++) {
            for (int what = 0; what < 3; what++) {
                Check.is(when + ": author " + a + " " + what, due[a][what], x.author(a, what));
            }
        }
    }

    private static void tellsWhatStandsWhere() {
        Drum x = Drum.loaded(LINE);
        x.lay();
        int[] due = {0, -1, -1, -1, 1, -1, -1, 2, -1, -1, -1, -1};
        for (int place = 0; place < 12; place++) {
            Check.is("at " + place, due[place], x.at(place));
        }
        Check.fails("at(12)", Check.INDEX, x, () -> x.at(12));
        Check.fails("at(-1)", Check.INDEX, x, () -> x.at(-1));
        x.setDrum(40);
        Check.is("at(39)", -1, x.at(39));
        Check.fails("at(40)", Check.INDEX, x, () -> x.at(40));
        x.setDrum(6);
        Check.fails("at(6)", Check.INDEX, x, () -> x.at(6));
    }

    private static void jumps(Drum x, int[][] due) {
        Check.is("different jumps", due.length, x.about(8));
        for (int i = 0; i < due.length; i++) {
            for (int what = 0; what < 3; what++) {
                Check.is("jump " + i + " " + what, due[i][what], x.jump(i, what));
            }
        }
        Check.is("no further jump", -1, x.jump(due.length, 2));
    }

    private static void tellsJumps() {
        Drum x = Drum.loaded("D12o0102--50o0102--40o010101--".replace("01--", "0100") + "o0115--10");
        jumps(x, new int[][] {});
        x.lay();
        x.run(3);
        jumps(x, new int[][] {{3, 15, 1}});
        x.run(1);
        jumps(x, new int[][] {{3, 15, 1}, {1, 2, 50}, {2, 1, 49}});
        x.change(1, 3, 0);
        x.run(2);
        jumps(x, new int[][] {{3, 15, 1}, {1, 2, 50}, {2, 1, 50}});
        x.run(3);
        jumps(x, new int[][] {{3, 15, 2}, {1, 2, 50}, {2, 1, 50}});
        x.change(0, 2, 0);
        x.run(0);
        jumps(x, new int[][] {{3, 15, 2}, {1, 2, 50}, {2, 1, 50}, {0, 0, 99}});
        Check.fails("jump(-1, 0)", Check.ARGUMENT, x, () -> x.jump(-1, 0));
        Check.fails("jump(0, 3)", Check.ARGUMENT, x, () -> x.jump(0, 3));
        Check.fails("jump(99, -1)", Check.ARGUMENT, x, () -> x.jump(99, -1));
        Check.is("jump(the greatest number)", -1, x.jump(Integer.MAX_VALUE, 2));
        keepsAllJumps();
    }

    /** 16 orders can make 256 different jumps: each one to the one that is so many further. */
    private static void keepsAllJumps() {
        Drum x = new Drum();
        x.setDrum(40);
        for (int o = 0; o < 16; o++) {
            x.addOrder(0, 1, 0, -1, 0);
        }
        x.lay();
        for (int further = 15; further >= 0; further--) {
            for (int o = 0; o < 16; o++) {
                x.change(o, 2, (o + further) % 16);
            }
            // the jumps lead around in as many rings
            int rings = gcd(16, further);
            for (int o = 0; o < rings; o++) {
                x.run(o);
            }
            Check.is("jumps to those " + further + " further and more", 16 * (16 - further), x.about(8));
        }
        x.save(0);
        x.turn(1);
        Check.is("another run makes no other jump", 2, x.run(0));
        x.undo();
        x.restore(0);
        Check.is("all jumps are kept", 256, x.about(8));
        Check.is("the last jump but 15", 0, x.jump(240, 0));
        Check.is("the last jump", 15, x.jump(255, 0));
        Check.is("the last jump", 15, x.jump(255, 1));
        Check.is("the last jump", 99, x.jump(255, 2));
        Check.is("no further jump", -1, x.jump(256, 0));
    }

    private static int gcd(int a, int b) {
        return b == 0 ? a : gcd(b, a % b);
    }

    private static void link(String program, int o, int chain, int ring) {
        Drum x = Drum.loaded("D06" + program);
        Check.is(program + ": chain " + o, chain, x.chain(o));
        Check.is(program + ": ring " + o, ring, x.ring(o));
    }

    private static void tellsChainsAndRings() {
        link("o01----00", 0, 1, 0);
        link("o010015".replace("15", "--") + "00", 0, 1, 1);
        link("o0115--00", 0, 1, 0);
        link("o0101--00o0102--00o01----00", 0, 3, 0);
        link("o0101--00o0102--00o01----00", 1, 2, 0);
        link("o0101--00o0102--00o0101--00", 0, 3, 2);
        link("o0101--00o0102--00o0100--00", 1, 3, 3);
        link("o0101--00o0102--00o0103--00", 0, 3, 0);
        link("o0101--00o0102--00o0102--00", 0, 3, 1);
        link("o0101--00o0100--00o0100--00", 2, 3, 2);
        StringBuilder all = new StringBuilder();
        for (int o = 0; o < 16; o++) {
            all.append("o01").append(String.format("%02d", (o + 1) % 16)).append("--00");
        }
        link(all.toString(), 9, 16, 16);
        link(all.substring(0, 135) + "o0115--00", 0, 16, 1);
        link(all.substring(0, 135) + "o01----00", 0, 16, 0);
        Drum x = Drum.loaded("D06o0101--00");
        Check.fails("chain(1)", Check.INDEX, x, () -> x.chain(1));
        Check.fails("chain(-1)", Check.INDEX, x, () -> x.chain(-1));
        Check.fails("ring(1)", Check.INDEX, x, () -> x.ring(1));
        Check.fails("ring(-1)", Check.INDEX, x, () -> x.ring(-1));
    }
}
