/** The terms: runs, and the jumps that they note. */
final class EdgesOfRuns {
    private EdgesOfRuns() {
    }

    static void hold() {
        missing();
        forged();
        waits();
        keptOrRefunded();
        reads();
        tooLong();
        jumps();
    }

    private static void missing() {
        String sentence = "if there is no such order, or it has no place, the run ends: it is missing;";
        Sentences.holds(Sentences.TERMS, sentence, """
                program D12 o0101--50
                run 0 = 3                   # without a place
                about 2 = 0
                about 8 = 0
                about 9 = 3
                order 0 8 = -1
                lay = 0
                run 0 = 3                   # there is no order 1
                about 2 = 2
                about 8 = 1
                jump 0 1 = 1
                addOrder 0 1 -1 -1 0 = 1
                run 0 = 3                   # there is one, but without a place
                jump 0 2 = 2
                order 1 8 = -1
                move 1 4 = 0
                run 0 = 0
                order 1 8 = 2               # from the tick 24 + 2 on
                """);
        Sentences.holds(Sentences.TERMS, sentence, """
                program D12 o0115--50
                lay
                run 0 = 3
                jump 0 1 = 15
                15 times addOrder 0 1 -1 -1 0 = 15
                move 15 2
                run 0 = 0
                """);
    }

    private static void forged() {
        String sentence = "if the run has come to it by a jump from another order (or from itself), and it expects an order, but"
                + " not that one, the run ends: the jump is forged;";
        Sentences.holds(Sentences.TERMS, sentence, """
                program D12 o0101--50 o01--0040
                lay
                run 0 = 0                   # 1 expects 0
                run 1 = 0                   # no jump leads to the order with which a run begins
                change 1 3 1
                run 0 = 1
                run 1 = 0
                change 1 3 15
                run 0 = 1
                change 1 3 -1
                run 0 = 0
                """);
        Sentences.holds(Sentences.TERMS, sentence, """
                program D12 o01000050
                lay
                run 0 = 2                   # expects itself
                change 0 3 1
                run 0 = 1
                jump 0 2 = 100              # 99 and the forged one
                """);
        Sentences.holds(Sentences.TERMS, sentence, """
                program D12 o0101--50 o11--1540
                lay
                run 0 = 1
                about 2 = 2                 # what is forged is not read
                order 1 8 = -1
                order 1 7 = 40
                author 1 2 = 0
                """);
        Sentences.holds(Sentences.TERMS, sentence, """
                program D12 o0101--50 o01--1540
                move 0 0
                run 0 = 3                   # missing is asked ahead of forged
                move 1 5
                run 0 = 1
                """);
    }

    private static void waits() {
        String sentence = "otherwise ticks go by until its place comes by (0, if it does so in this tick): its wait.";
        Sentences.holds(Sentences.TERMS, sentence, """
                program D12 o01----50
                lay
                run 0 = 0
                order 0 8 = 0
                about 2 = 2
                turn 10 = 0
                run 0 = 0
                order 0 8 = 0               # a round later
                about 2 = 14
                turn 11 = 1
                run 0 = 0
                order 0 8 = 11              # its place has just gone by
                about 2 = 38
                turn 9 = 11
                run 0 = 0
                order 0 8 = 1
                about 2 = 50
                """);
        Sentences.holds(Sentences.TERMS, sentence, """
                program D06 o01----50
                move 0 5
                run 0 = 0
                order 0 8 = 5
                about 2 = 7
                """);
    }

    private static void keptOrRefunded() {
        String sentence = "If it was come to by a jump and its bribe is open, the bribe is kept if the wait is 0, and refunded"
                + " otherwise; it is open no more.";
        Sentences.holds(Sentences.TERMS, sentence, """
                program D12 o0101--50 o11----40
                lay
                run 0 = 0
                order 1 8 = 0
                order 1 7 = 0
                author 1 2 = 0
                order 0 7 = 50              # begun with, not come to by a jump
                turn 1
                run 0 = 0
                order 0 8 = 7
                order 0 7 = 50
                author 0 2 = 0
                """);
        Sentences.holds(Sentences.TERMS, sentence, """
                program D12 o0201--50 o11----40
                lay
                change 0 1 1
                run 0 = 0
                order 1 8 = 1               # one tick late
                order 1 7 = 0
                author 1 2 = 40
                author 0 2 = 0
                run 0 = 0
                author 1 2 = 40             # it is open no more
                """);
        Sentences.holds(Sentences.TERMS, sentence, """
                program D12 o0201--50 o11----40
                lay
                change 0 1 3
                run 0 = 0
                order 1 8 = 11              # its place has just gone by
                author 1 2 = 40
                """);
        Sentences.holds(Sentences.TERMS, sentence, """
                program D12 o0201--50 o11----40
                lay
                run 0 = 0                   # kept
                change 0 1 1
                run 0 = 0                   # late, but not open any more
                order 1 8 = 1
                author 1 2 = 0
                move 1 5 = 0
                """);
        Sentences.holds(Sentences.TERMS, sentence, """
                program D12 o0100--50
                lay
                run 0 = 2                   # begun with itself, then come to by a jump from itself
                order 0 7 = 0
                author 0 2 = 50
                """);
        Sentences.holds(Sentences.TERMS, sentence, """
                program D12 o0201--50 o11----40
                lay
                change 0 1 1
                change 1 0 3
                change 1 4 99
                run 0 = 0
                author 3 2 = 40             # what was paid, to the author of now
                author 1 2 = 0
                """);
    }

    private static void reads() {
        Sentences.holds(Sentences.TERMS, "Then 1 tick goes by in which it is read, and as many as its work.", """
                program D12 o01----00 o09----00
                lay
                run 0 = 0
                about 2 = 2
                turn 11
                run 1 = 0
                about 2 = 23
                """);
        Sentences.holds(Sentences.TERMS, "The jump to its next one is noted; if it has none, the run ends as told.", """
                program D12 o01----00
                lay
                run 0 = 0
                about 8 = 0
                about 9 = 0
                change 0 2 1
                run 0 = 3
                about 8 = 1
                """);
        Sentences.holds(Sentences.TERMS, "it begins in the tick of now with some order.", """
                program D12 o01----00
                move 0 7
                turn 7
                run 0 = 0
                about 2 = 9
                """);
    }

    private static void tooLong() {
        String sentence = "A run ends as too long when it would read a 100th order (asked behind whether it is missing or the jump"
                + " forged, ahead of its wait).";
        Sentences.holds(Sentences.TERMS, sentence, """
                program D12 o0900--50
                move 0 11
                run 0 = 2
                about 2 = 1197              # 11, 99 times 10, 98 times 2; no wait for the 100th
                about 9 = 2
                jump 0 2 = 99
                order 0 8 = 2
                """);
        Sentences.holds(Sentences.TERMS, sentence, """
                program D06 o0501--00 o0500--00
                lay = 1
                run 0 = 2                   # 1 is waited for 1 tick each time, 0 for 5
                about 2 = 888               # 0 and 1 are read 49 times in 18 ticks, and 0 once more
                """);
        Sentences.holds(Sentences.TERMS, sentence, """
                program D40 o0101--00 o0102--00 o0103--00 o0104--00 o0105--00 o0106--00 o0107--00 o0108--00
                text o0109--00 o0110--00 o0111--00 o0112--00 o0113--00 o0114--00 o0115--00 o01----00
                load = 16
                lay = 0
                run 0 = 0                   # 16 orders one behind the other
                about 2 = 32
                about 8 = 15
                change 15 2 0
                run 0 = 2
                jump 2 2 = 8                # 1 and 7 times: 99 orders are 6 rounds and 3 orders
                jump 3 2 = 7
                about 8 = 16
                jump 15 2 = 6
                """);
        Sentences.holds(Sentences.TERMS, "The tick of now is the one behind the run then.", """
                program D12 o0101--50 o01--0040
                lay
                turn 5
                run 0 = 0
                about 2 = 16
                change 1 3 1
                run 0 = 1
                about 2 = 26
                change 0 2 5
                run 0 = 3
                about 2 = 38
                """);
    }

    private static void jumps() {
        String sentence = "The jumps are noted by the two orders, in the order in which they were made first, each with how often"
                + " it was made (also those that turn out to be forged or to lead to a missing one).";
        Sentences.holds(Sentences.TERMS, sentence, """
                program D12 o0101--00 o0100--00
                lay
                run 1 = 2
                about 8 = 2
                jump 0 0 = 1
                jump 0 1 = 0
                jump 0 2 = 50
                jump 1 0 = 0
                jump 1 1 = 1
                jump 1 2 = 49
                jump 2 0 = -1
                run 0 = 2
                jump 0 0 = 1
                jump 0 2 = 99
                jump 1 2 = 99
                about 8 = 2
                """);
        Sentences.holds(Sentences.TERMS, sentence, """
                program D12 o0101--50 o01--1540 o0115--00
                lay
                run 0 = 1
                jump 0 0 = 0
                jump 0 1 = 1
                jump 0 2 = 1
                jump 1 0 = -1
                run 2 = 3
                jump 1 0 = 2
                jump 1 1 = 15
                jump 1 2 = 1
                run 0 = 1
                jump 0 2 = 2
                about 8 = 2
                """);
        Sentences.holds(Sentences.TERMS, sentence, """
                program D12 o0102--00 o0102--00 o01----00
                lay
                run 0 = 0
                run 1 = 0                   # from another order to the same one
                about 8 = 2
                jump 0 0 = 0
                jump 1 0 = 1
                jump 1 1 = 2
                change 0 2 1
                run 0 = 0                   # from the same one to another
                about 8 = 3
                jump 0 2 = 1
                jump 1 2 = 2
                jump 2 0 = 0
                jump 2 1 = 1
                undo = 4
                change 0 2 15
                run 0 = 3
                jump 1 2 = 1
                jump 2 1 = 15
                """);
        Sentences.holds(Sentences.TERMS, sentence, """
                program D12 o0100--00
                lay
                run 0 = 2
                jump 0 0 = 0                # to itself
                jump 0 1 = 0
                jump 0 2 = 99
                """);
    }
}
