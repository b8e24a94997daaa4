/** Promises 26 and 27: runScript, simulate; both leave the state as it is. */
public final class ScriptTest {
    private static final String LINE = "D12o0301--50o1202--30o21--0020";

    public static void main(String[] args) {
        runsEachCommand();
        runsSeveral();
        refusesScripts();
        simulates();
        simulatesTheCap();
        Check.end("ScriptTest");
    }

    private static Drum laid() {
        Drum x = Drum.loaded(LINE);
        x.lay();
        return x;
    }

    private static void script(Drum x, int n, long script, int due) {
        String before = x.view();
        Check.is("runScript(" + n + ", " + script + ")", due, x.runScript(n, script));
        Check.is("runScript(" + n + ", " + script + ") changes nothing", before, x.view());
    }

    private static void runsEachCommand() {
        Drum x = laid();
        int[] succeed = {10000, 10200, 20000, 30001, 30111, 30000, 40001, 40099, 50000, 50299, 60000, 60215, 60199, 70000,
            70104, 70207, 80201, 90000, 93999};
        for (int command : succeed) {
            script(x, 1, command, -1);
        }
        int[] fail = {0, 1, 1000, 9999, 10300, 10001, 10010, 20001, 20010, 20100, 21000, 30004, 30012, 30300, 40000, 40101,
            41001, 50300, 59999, 60016, 60098, 60300, 69999, 70103, 70206, 70399, 80001, 80399, 80199, 94000, 99999};
        for (int command : fail) {
            script(x, 1, command, 0);
        }
        x.setDrum(12);
        script(x, 1, 70099, 0);
        script(x, 1, 80099, 0);
        script(x, 1, 90049, 0);
        script(x, 1, 90050, -1);
        script(x, 1, 92019, 0);
        script(x, 1, 92020, -1);
        Check.is("a script is no action", 2, x.undoAll());
    }

    private static void runsSeveral() {
        Drum x = laid();
        // after run(0) it is the tick 7
        script(x, 2, 10000_70200L, -1);
        script(x, 2, 10000_70104L, 1);
        script(x, 2, 10000_70109L, -1);
        // the question for a run makes none
        script(x, 2, 80201_70000L, -1);
        // a run of 9 ticks with a wait of 0; of 14 in the tick 7
        x.change(2, 3, 1);
        script(x, 1, 80001L, -1);
        script(x, 2, 40007_80001L, 1);
        script(x, 2, 40007_80002L, -1);
        script(x, 1, 80000L, 0);
        // the new bribe counts when orders are laid
        script(x, 3, 50099_20000_70000L, -1);
        script(x, 3, 50000_20000_70000L, 2);
        script(x, 3, 50000_20000_70008L, -1);
        script(x, 3, 60099_50000_20000L, -1);
        script(x, 3, 60099_20000_70101L, -1);
        script(x, 3, 60099_20000_70100L, 2);
        script(x, 2, 60099_80000L, 1);
        script(x, 2, 60099_80001L, -1);
        // moves and what they refund
        script(x, 2, 30009_90049L, 1);
        script(x, 2, 30009_90050L, -1);
        script(x, 2, 30009_30100L, -1);
        script(x, 2, 30009_30209L, 1);
        script(x, 2, 30009_70008L, 1);
        script(x, 2, 30009_70009L, -1);
        // what a script has changed counts in it
        script(x, 2, 40003_70009L, -1);
        script(x, 2, 40003_70008L, 1);
        Drum y = Drum.loaded("D12o09----00o0900--00");
        script(y, 2, 30000_70000L, -1);
        script(y, 2, 30103_70103L, -1);
        // a run from 0 takes 10 ticks, one from 1 takes 20
        script(y, 2, 30000_80001L, -1);
        script(y, 2, 30001_80001L, 1);
        script(y, 3, 30100_30010_80102L, -1);
        script(y, 3, 30100_30011_80102L, 2);
        // the first that fails, with zeros before a number of fewer digits
        script(x, 3, 20000L, 0);
        script(x, 2, 20000_00000L, 1);
        script(x, 3, 20000_20000_00000L, 2);
        script(x, 3, 20000_00000_00000L, 1);
        script(x, 3, 20000_20000_20000L, -1);
        script(x, 3, 0L, 0);
    }

    private static void refusesScripts() {
        Drum x = laid();
        Check.fails("n = 0", Check.ARGUMENT, x, () -> x.runScript(0, 0L));
        Check.fails("n = 4", Check.ARGUMENT, x, () -> x.runScript(4, 20000L));
        Check.fails("a negative script", Check.ARGUMENT, x, () -> x.runScript(1, -1L));
        Check.fails("the least script", Check.ARGUMENT, x, () -> x.runScript(3, Long.MIN_VALUE));
        Check.fails("six digits", Check.ARGUMENT, x, () -> x.runScript(1, 100000L));
        Check.fails("eleven digits", Check.ARGUMENT, x, () -> x.runScript(2, 10000000000L));
        Check.fails("sixteen digits", Check.ARGUMENT, x, () -> x.runScript(3, 1000000000000000L));
        Check.fails("the greatest script", Check.ARGUMENT, x, () -> x.runScript(3, Long.MAX_VALUE));
        script(x, 1, 99999L, 0);
        script(x, 2, 9999999999L, 0);
        script(x, 3, 999999999999999L, 0);
    }

    /** Does on the object itself, call by call, what a simulation does on a copy. */
    private static int twin(Drum x, long seed, int m) {
        long s = seed;
        int told = 0;
        int before = x.about(6);
        for (int i = 0; i < m; i++) {
            s = s * 6364136223846793005L + 1442695040888963407L;
            int r = (int) (s >>> 33);
            x.change(r / 16 % x.about(1), 4, r / 1024 % 100);
            if (r % 4 == 0) {
                x.lay();
            }
            told += x.run(r / 256 % x.about(1)) == 0 ? 1 : 0;
        }
        return 1000 * told + Math.min(999, x.about(6) - before);
    }

    private static void simulates() {
        long[] seeds = {0, 1, -1, 5, 77, Long.MIN_VALUE, Long.MAX_VALUE, 123456789012345L};
        for (long seed : seeds) {
            for (int m : new int[] {1, 2, 3, 7, 20, 50}) {
                Drum x = laid();
                x.change(2, 3, 1);
                x.turn(5);
                x.move(1, 8);
                String before = x.view();
                int answer = x.simulate(seed, m);
                Check.is("simulate changes nothing", before, x.view());
                Check.is("simulate(" + seed + ", " + m + ")", twin(x, seed, m), answer);
            }
        }
        simulatesTheLeastAndTheGreatest();
        Drum one = Drum.loaded("D12o03----50");
        one.lay();
        int answer = one.simulate(9, 20);
        Check.is("one order ends as told each time", 20, answer / 1000);
        Check.is("with one order", twin(one, 9, 20), answer);
        Drum none = new Drum();
        Check.is("without orders", 0, none.simulate(1, 50));
        Drum x = laid();
        Check.fails("m = 0", Check.ARGUMENT, x, () -> x.simulate(1, 0));
        Check.fails("m = 51", Check.ARGUMENT, x, () -> x.simulate(1, 51));
        Check.fails("m = -1", Check.ARGUMENT, x, () -> x.simulate(1, -1));
        Check.is("simulate is no action", 1, x.undoAll());
    }

    /** Seeds whose first r is 0, the greatest one, and some between. */
    private static void simulatesTheLeastAndTheGreatest() {
        long inverse = 1;
        for (int i = 0; i < 6; i++) {
            inverse *= 2 - 6364136223846793005L * inverse;
        }
        for (long r : new long[] {0, 1, 3, 4, Integer.MAX_VALUE, Integer.MAX_VALUE - 3}) {
            long seed = ((r << 33) - 1442695040888963407L) * inverse;
            Drum x = laid();
            x.move(0, 5);
            int answer = x.simulate(seed, 1);
            Check.is("simulate with r = " + r, twin(x, seed, 1), answer);
            Check.is("the bribe by r = " + r, (int) (r / 1024 % 100), x.order((int) (r / 16 % 3), 4));
        }
    }

    private static void simulatesTheCap() {
        Drum x = Drum.loaded("D40" + "o01----99".repeat(16));
        x.lay();
        Check.is("more than 999 refunded", 50999, x.simulate(3, 50));
        x.setDrum(40);
        x.setDrum(40);
        Check.is("refunded before does not count", 1584, x.about(6));
        long still = 0;
        while (still < 1000 && x.simulate(still, 1) != 0) {
            still++;
        }
        Check.is("a run that is missing, nothing refunded", 0, x.simulate(still, 1));
    }
}
