import java.util.regex.Pattern;

/** The promises 26 and 27: runScript, simulate. */
final class EdgesOfScripts {
    private EdgesOfScripts() {
    }

    static void hold() {
        size();
        firstThatFails();
        runs();
        laysAndMoves();
        turns();
        changes();
        asksForWaits();
        asksForRuns();
        asksForRefunds();
        othersFail();
        simulates();
        simulatesByR();
        simulatesRefunds();
        simulatesRefused();
    }

    private static void size() {
        Sentences.holds(26, "`n`: number of commands, 1 to 3", """
                runScript 1 20000 = -1
                runScript 3 20000_20000_20000 = -1
                runScript 0 0 ! IllegalArgumentException
                runScript 4 20000 ! IllegalArgumentException
                """);
        Sentences.holds(26, "`script`: the commands, a number of at most 5 * n digits (0 or more)", """
                runScript 1 0 = 0
                runScript 1 99999 = 0
                runScript 1 100000 ! IllegalArgumentException
                runScript 1 20000_20000 ! IllegalArgumentException
                runScript 2 0 = 0
                runScript 2 99999_99999 = 0
                runScript 2 100000_00000 ! IllegalArgumentException
                runScript 3 0 = 0
                runScript 3 99999_99999_99999 = 0
                runScript 3 100000_00000_00000 ! IllegalArgumentException
                runScript 3 -1 ! IllegalArgumentException
                """);
        Sentences.holds(26, "Throws `IllegalArgumentException` if n is out of range, or if script is negative or has more than 5 * n"
                + " digits", """
                turn 1
                runScript 0 0 ! IllegalArgumentException
                runScript -1 20000 ! IllegalArgumentException
                runScript 4 0 ! IllegalArgumentException
                runScript 4 20000_20000_20000 ! IllegalArgumentException
                runScript -2147483648 20000 ! IllegalArgumentException
                runScript 2147483647 20000 ! IllegalArgumentException
                runScript 1 -1 ! IllegalArgumentException
                runScript 1 -20000 ! IllegalArgumentException
                runScript 2 -1 ! IllegalArgumentException
                runScript 3 -9223372036854775808 ! IllegalArgumentException
                runScript 3 9223372036854775807 ! IllegalArgumentException
                runScript 1 4294987296 ! IllegalArgumentException
                undo = 0
                """);
    }

    private static void firstThatFails() {
        Sentences.holds(26, "Returns the index, from 0, of the first command that fails; NONE if all succeed.", """
                runScript 1 20000 = -1
                runScript 1 20001 = 0
                runScript 2 20000_20000 = -1
                runScript 2 20000_20001 = 1
                runScript 2 20001_20000 = 0
                runScript 2 20001_20001 = 0
                runScript 3 20000_20000_20000 = -1
                runScript 3 20000_20000_20001 = 2
                runScript 3 20000_20001_20000 = 1
                runScript 3 20000_20001_20001 = 1
                runScript 3 20001_20000_20000 = 0
                """);
        Sentences.holds(26, "the first command is the highest group of the number (with zeros before it, if it has fewer digits).", """
                runScript 2 20000 = 0
                runScript 3 20000 = 0
                runScript 3 20000_20000 = 0
                runScript 2 9999_20000 = 0
                """);
        Sentences.holds(26, "Runs a script on a copy of the state.", """
                program D12 o0101--50 o11----40
                lay
                runScript 3 10000_30011_50001 = -1
                runScript 3 60015_40001_20000 = -1
                runScript 2 10000_99999 = 1
                order 0 5 = 0
                order 0 4 = 50
                about 2 = 0
                """);
    }

    private static void runs() {
        Sentences.holds(26, "1 o o 0 0: run(oo).", """
                runScript 1 10000 = 0       # there is no order
                addOrder 0 1 1 -1 50
                addOrder 1 1 -1 -1 40
                runScript 1 10000 = -1      # a run that is missing is one
                runScript 1 10100 = -1
                runScript 1 10200 = 0
                runScript 1 19900 = 0
                runScript 1 10001 = 0
                runScript 1 10010 = 0
                lay
                runScript 2 10000_70008 = -1    # from the tick 4 on
                runScript 2 10000_70007 = 1
                14 times addOrder 0 1 -1 -1 0 = 15
                runScript 1 11500 = -1
                runScript 1 11600 = 0
                """);
    }

    private static void laysAndMoves() {
        Sentences.holds(26, "2 0 0 0 0: lay().", """
                runScript 1 20000 = -1
                runScript 1 20001 = 0
                runScript 1 20010 = 0
                runScript 1 20100 = 0
                runScript 1 21000 = 0
                addOrder 0 1 -1 -1 0
                runScript 1 70000 = 0
                runScript 2 20000_70000 = -1
                """);
        Sentences.holds(26, "3 o o p p: move(oo, pp).", """
                program D12 o0101--50 o11----40
                lay
                runScript 1 30000 = -1      # its own place
                runScript 1 30001 = -1
                runScript 1 30011 = -1
                runScript 1 30012 = 0
                runScript 1 30099 = 0
                runScript 1 30002 = 0       # where 1 stands
                runScript 1 30100 = 0       # where 0 stands
                runScript 1 30102 = -1
                runScript 1 30205 = 0
                runScript 2 30011_70011 = -1
                runScript 2 30011_70010 = 1
                runScript 2 30011_90049 = 1
                runScript 2 30011_90050 = -1
                runScript 2 30011_30100 = -1    # 0 is left
                setDrum 40
                runScript 1 30039 = -1
                runScript 1 30040 = 0
                """);
    }

    private static void turns() {
        Sentences.holds(26, "4 0 0 x y: turn(xy).", """
                runScript 1 40000 = 0
                runScript 1 40001 = -1
                runScript 1 40099 = -1
                runScript 1 40100 = 0
                runScript 1 40101 = 0
                runScript 1 41001 = 0
                addOrder 0 1 -1 -1 0
                move 0 0
                runScript 2 40001_70011 = -1
                runScript 2 40001_70010 = 1
                runScript 2 40012_70000 = -1
                runScript 2 40099_70009 = -1
                runScript 2 40099_70008 = 1
                runScript 3 40001_40001_70010 = -1
                runScript 3 40001_40001_70009 = 2
                turn 1
                runScript 2 40001_70010 = -1
                runScript 2 40001_70009 = 1
                """);
    }

    private static void changes() {
        Sentences.holds(26, "5 o o x y: the bribe of oo becomes xy.", """
                program D12 o0101--50 o11----40
                runScript 1 50000 = -1
                runScript 1 50099 = -1
                runScript 1 50100 = -1
                runScript 1 50200 = 0
                runScript 1 59900 = 0
                runScript 3 50041_20000_70000 = -1
                runScript 3 50040_20000_70000 = -1
                runScript 3 50039_20000_70000 = 2   # 1 is laid first, 0 ahead of it at 10
                runScript 3 50039_20000_70010 = -1
                runScript 3 50039_20000_70009 = 2
                """);
        Sentences.holds(26, "6 o o n n: the next order of oo becomes nn (99: none).", """
                program D12 o0101--50 o11----40
                lay
                runScript 1 60000 = -1
                runScript 1 60015 = -1
                runScript 1 60016 = 0
                runScript 1 60098 = 0
                runScript 1 60099 = -1
                runScript 1 60115 = -1
                runScript 1 60200 = 0
                runScript 1 60299 = 0
                change 0 1 9
                runScript 1 80001 = 0       # 10 ticks, a wait of 4 for 1, and 2
                runScript 1 80002 = -1
                runScript 2 60099_80001 = -1
                runScript 2 60099_80000 = 1
                runScript 2 60015_80099 = 1
                runScript 2 60000_80099 = 1
                """);
    }

    private static void asksForWaits() {
        Sentences.holds(26, "7 o o x y: succeeds if the order oo has a place and is waited for at most xy ticks.", """
                program D40 o01----50 o01----40
                runScript 1 70000 = 0
                runScript 1 70099 = 0       # without a place
                lay
                runScript 1 70000 = -1
                runScript 1 70100 = 0
                runScript 1 70101 = -1
                runScript 1 70200 = 0
                runScript 1 70299 = 0
                turn 1
                runScript 1 70038 = 0
                runScript 1 70039 = -1
                runScript 1 70040 = -1
                runScript 1 70099 = -1
                """);
    }

    private static void asksForRuns() {
        String sentence = "8 o o x y: succeeds if a run from oo ends as told and takes at most 10 * xy ticks (this is only asked, no run is"
                + " made).";
        Sentences.holds(26, sentence, """
                program D12 o09----00
                runScript 1 80099 = 0       # missing
                move 0 0
                runScript 1 80000 = 0
                runScript 1 80001 = -1      # 10 ticks
                move 0 1
                runScript 1 80001 = 0       # 11 ticks
                runScript 1 80002 = -1
                move 0 10
                runScript 1 80002 = -1      # 20 ticks
                move 0 11
                runScript 1 80002 = 0       # 21 ticks
                runScript 1 80003 = -1
                runScript 1 80100 = 0
                runScript 1 80199 = 0
                """);
        Sentences.holds(26, sentence, """
                program D12 o0101--00 o01--1500
                lay
                runScript 1 80099 = 0       # forged
                runScript 1 80101 = -1
                runScript 2 80101_70000 = -1    # no tick has gone by
                runScript 1 60000 = -1
                runScript 2 60000_80099 = 1     # too long
                runScript 2 60015_80099 = 1     # missing
                """);
    }

    private static void asksForRefunds() {
        String sentence = "9 a x y z: succeeds if at most xyz was refunded to the author a.";
        Sentences.holds(26, sentence, """
                program D12 o01----01 o31----02
                lay
                runScript 1 90000 = -1
                runScript 1 93000 = -1
                setDrum 12
                runScript 1 90000 = 0
                runScript 1 90001 = -1
                runScript 1 91000 = -1
                runScript 1 92000 = -1
                runScript 1 93001 = 0
                runScript 1 93002 = -1
                runScript 1 93999 = -1
                runScript 1 94000 = 0       # there is no author 4
                runScript 1 94999 = 0
                runScript 1 99999 = 0
                """);
        Sentences.holds(26, sentence, """
                program D40 10*o31----99 o31----09 o31----01
                move 11 20
                lay
                move 11 20 = 1
                setDrum 40
                author 3 2 = 1000
                runScript 1 93999 = 0
                """);
        Sentences.holds(26, sentence, """
                program D40 10*o31----99 o31----09
                lay
                setDrum 40
                author 3 2 = 999
                runScript 1 93998 = 0
                runScript 1 93999 = -1
                """);
    }

    private static void othersFail() {
        Sentences.holds(26, "The commands 1 to 6 fail if the method with this effect would throw an exception; commands with orders, places or"
                + " authors that do not exist fail, and so does any other group (also one with another digit where a 0 is written).", """
                program D12 o01----00
                runScript 1 0 = 0
                runScript 1 1 = 0
                runScript 1 9999 = 0
                runScript 1 1000 = 0
                runScript 1 10100 = 0
                runScript 1 30100 = 0
                runScript 1 50100 = 0
                runScript 1 60100 = 0
                runScript 1 70100 = 0
                runScript 1 80100 = 0
                runScript 1 10009 = 0
                runScript 1 10090 = 0
                runScript 1 20009 = 0
                runScript 1 20090 = 0
                runScript 1 20900 = 0
                runScript 1 29000 = 0
                runScript 1 40901 = 0
                runScript 1 49001 = 0
                """);
    }

    private static void simulates() {
        Sentences.holds(27, "`seed`: any long", """
                program D12 o01----00
                move 0 0
                simulate -9223372036854775808 1 = 1000
                simulate 9223372036854775807 1 = 1000
                simulate -1 1 = 1000
                simulate 0 1 = 1000
                simulate -9223372036854775808 10 = 10222
                simulate 9223372036854775807 10 = 10141
                simulate -1 10 = 10117
                simulate 0 10 = 10094
                simulate 1 10 = 10000
                """);
        Sentences.holds(27, "`m`: number of runs, 1 to 50", """
                program D12 o01----00
                move 0 0
                simulate 0 1 = 1000
                simulate 0 2 = 2000
                simulate 0 49 = 49469
                simulate 0 50 = 50469
                simulate 1 50 = 50588
                simulate 0 0 ! IllegalArgumentException
                simulate 0 51 ! IllegalArgumentException
                """);
        Sentences.holds(27, "If there are no orders, nothing else happens.", """
                simulate 0 1 = 0
                simulate 0 50 = 0
                simulate -9223372036854775808 50 = 0
                """);
    }

    private static void simulatesByR() {
        Sentences.holds(27, "if r % 4 is 0, the orders are laid;", seeds("""
                program D12 o01----00
                simulate r0 1 = 1000
                simulate r1 1 = 0           # not laid: missing
                simulate r2 1 = 0
                simulate r3 1 = 0
                simulate r4 1 = 1000
                simulate r2147483644 1 = 1000
                simulate r2147483647 1 = 0
                """));
        Sentences.holds(27, "then a run begins with the order r / 256 % (their number).", seeds("""
                program D12 o01----00 o0115--00
                move 0 0
                move 1 1
                simulate r255 1 = 1000
                simulate r257 1 = 0         # the next one of 1 is missing
                simulate r511 1 = 0
                simulate r513 1 = 1000
                """));
        // there is one place too few: the last order gets one if its bribe becomes greater than that of the others
        String bribes = "Otherwise the bribe of the order r / 16 % (their number) becomes r / 1024 % 100;";
        Sentences.holds(27, bribes, seeds("""
                program D06 7*o01----10
                simulate r10512 1 = 0       # 10
                simulate r114448 1 = 1000   # 111
                simulate r112892 1 = 0      # 110
                clearText
                program D06 7*o01----98
                simulate r101904 1 = 1000   # 99
                simulate r204284 1 = 1000   # 199
                """));
        Sentences.holds(27, bribes, seeds("""
                program D10 11*o01----10
                simulate r11260 1 = 0       # 10, but for 4 in 1024 it would be 11
                clearText
                program D10 11*o01----00
                simulate r205376 1 = 0      # 200
                """));
        Sentences.holds(27, bribes, seeds("""
                program D14 15*o01----10
                simulate r11264 1 = 1000    # 11
                """));
    }

    /** The run with the seed behind which r is 5 in the first run instead of each r5. */
    private static String seeds(String run) {
        return Pattern.compile("\\br(\\d+)").matcher(run).replaceAll(m -> "" + seed(Long.parseLong(m.group(1))));
    }

    private static long seed(long r) {
        long inverse = 1;
        for (int i = 0; i < 6; i++) {
            inverse *= 2 - 6364136223846793005L * inverse;
        }
        return ((r << 33) - 1442695040888963407L) * inverse;
    }

    private static void simulatesRefunds() {
        String sentence = "Returns 1000 * (the runs of them that ended as told) + (what was refunded in them to all authors together, or 999"
                + " if more).";
        Sentences.holds(27, sentence, seeds("""
                program D40 10*o31----99 o01----08
                lay
                simulate r0 1 = 1998
                change 10 4 9
                lay
                simulate r0 1 = 1999
                change 10 4 10
                lay
                simulate r0 1 = 1999
                change 10 4 11
                lay
                simulate r0 1 = 1999
                simulate r1 1 = 1000        # not laid
                """));
        Sentences.holds(27, sentence, seeds("""
                program D12 o0115--50
                lay
                simulate r0 1 = 50          # missing
                setDrum 12
                simulate r0 1 = 0           # refunded, but before
                """));
        Sentences.holds(27, sentence, seeds("""
                program D12 o0201--50 o11----40
                lay
                change 0 1 1
                simulate r1 1 = 1040        # 1 is late in the run
                change 0 1 2
                simulate r1 1 = 1000
                """));
    }

    private static void simulatesRefused() {
        Sentences.holds(27, "Throws `IllegalArgumentException` if m is out of range", """
                turn 1
                simulate 0 0 ! IllegalArgumentException
                simulate 0 -1 ! IllegalArgumentException
                simulate 0 51 ! IllegalArgumentException
                simulate 0 -2147483648 ! IllegalArgumentException
                simulate 0 2147483647 ! IllegalArgumentException
                undo = 0
                """);
    }
}
