/** The promises 6 to 12: about, order, author, at, jump, chain, ring. */
final class EdgesOfLooks {
    private EdgesOfLooks() {
    }

    static void hold() {
        about();
        aboutBribes();
        aboutTheLastRun();
        order();
        orderOnTheDrum();
        orderInARun();
        author();
        at();
        jump();
        chain();
        ring();
    }

    private static void about() {
        Sentences.holds(6, "0: the number of places; 1: of orders; 2: the tick of now; 3: the place that comes by in the tick of now;"
                + " 4: the orders that have places;", """
                setDrum 6
                about 0 = 6
                setDrum 40
                about 0 = 40
                about 1 = 0
                16 times addOrder 0 1 -1 -1 0
                about 1 = 16
                turn 39
                about 2 = 39
                about 3 = 39
                turn 1
                about 2 = 40
                about 3 = 0
                about 4 = 0
                move 15 39
                about 4 = 1
                lay
                about 4 = 16
                setDrum 15
                about 4 = 0
                lay
                about 4 = 15
                """);
        Sentences.holds(6, "Returns that number.", """
                about 0 = 12
                turn 99
                about 2 = 99
                turn 1
                about 2 = 100
                about 3 = 4
                """);
        Sentences.holds(6, "Throws `IllegalArgumentException` if what is not 0 to 9", """
                turn 5
                about -1 ! IllegalArgumentException
                about 10 ! IllegalArgumentException
                about -2147483648 ! IllegalArgumentException
                about 2147483647 ! IllegalArgumentException
                about 0 = 12
                about 9 = -1
                """);
    }

    private static void aboutBribes() {
        Sentences.holds(6, "5: the bribes that were paid so far; 6: those of them that were refunded; 7: those that are open;", """
                program D12 o0101--99 o1102--01 o2103--00 o31----98
                about 5 = 0
                about 6 = 0
                about 7 = 0
                lay
                about 5 = 198
                about 6 = 0
                about 7 = 198
                run 0 = 0                   # 1 and 2 in time, 3 late
                about 5 = 198
                about 6 = 98
                about 7 = 99
                lay
                about 5 = 396
                about 6 = 197
                about 7 = 198
                setDrum 12
                about 5 = 396
                about 6 = 395
                about 7 = 0
                """);
        Sentences.holds(6, "8: the number of different jumps that were made;", """
                program D12 o0101--00 o01----00
                about 8 = 0
                lay
                run 0 = 0
                run 0 = 0
                about 8 = 1
                change 1 2 0
                run 0 = 2
                about 8 = 2
                undo
                about 8 = 1
                """);
    }

    private static void aboutTheLastRun() {
        Sentences.holds(6, "9: how the last run ended (0: as told; 1: forged; 2: too long; 3: missing), NONE if there was none", """
                program D12 o0101--00 o01----00
                about 9 = -1
                lay
                time 0 = 4
                about 9 = -1
                run 0 = 0
                about 9 = 0
                change 1 3 1
                run 0 = 1
                about 9 = 1
                change 0 2 0
                run 0 = 2
                about 9 = 2
                setDrum 12
                about 9 = 2
                run 0 = 3
                about 9 = 3
                undo
                about 9 = 2
                load
                about 9 = -1
                """);
    }

    private static void order() {
        Sentences.holds(7, "`o`: order", """
                program D12 15*o01----00 o39150099
                order 0 1 = 1
                order 14 0 = 0
                order 15 0 = 3
                order 15 1 = 9
                order 15 2 = 15
                order 15 3 = 0
                order 15 4 = 99
                order 16 0 ! IndexOutOfBoundsException
                """);
        Sentences.holds(7, "2: its next order, NONE without one; 3: the one that it expects, NONE without one; 4: its bribe;", """
                addOrder 0 1 -1 0 0
                addOrder 3 9 0 -1 99
                order 0 2 = -1
                order 0 3 = 0
                order 0 4 = 0
                order 1 2 = 0
                order 1 3 = -1
                order 1 4 = 99
                """);
        Sentences.holds(7, "Returns that number.", """
                addOrder 2 3 4 5 6
                order 0 0 = 2
                order 0 1 = 3
                order 0 2 = 4
                order 0 3 = 5
                order 0 4 = 6
                order 0 5 = -1
                order 0 6 = -1
                order 0 7 = 0
                order 0 8 = -1
                """);
        Sentences.holds(7, "Throws `IndexOutOfBoundsException` if there is no such order", """
                order 0 0 ! IndexOutOfBoundsException
                addOrder 0 1 -1 -1 0
                order 0 0 = 0
                order 1 0 ! IndexOutOfBoundsException
                order -1 0 ! IndexOutOfBoundsException
                order 16 0 ! IndexOutOfBoundsException
                order -2147483648 8 ! IndexOutOfBoundsException
                order 2147483647 9 ! IndexOutOfBoundsException
                undo
                order 0 0 ! IndexOutOfBoundsException
                """);
        Sentences.holds(7, "Throws `IllegalArgumentException` if what is not 0 to 8", """
                addOrder 0 1 -1 -1 0
                order 0 -1 ! IllegalArgumentException
                order 0 9 ! IllegalArgumentException
                order 0 -2147483648 ! IllegalArgumentException
                order 0 2147483647 ! IllegalArgumentException
                order 0 0 = 0
                order 0 8 = -1
                """);
    }

    private static void orderOnTheDrum() {
        Sentences.holds(7, "5: its place, NONE without one;", """
                addOrder 0 1 -1 -1 0
                order 0 5 = -1
                move 0 11
                order 0 5 = 11
                move 0 0
                order 0 5 = 0
                setDrum 12
                order 0 5 = -1
                """);
        Sentences.holds(7, "6: its delay when orders were laid last (NONE if it has not got a place then, or was moved or the drum"
                + " changed since);", """
                program D06 7*o01----10
                order 0 6 = -1
                lay
                order 0 6 = 0
                order 1 6 = 1
                order 5 6 = 5
                order 6 6 = -1
                addOrder 0 1 -1 -1 99
                order 7 6 = -1
                move 0 0
                order 0 6 = -1              # moved to its own place
                order 1 6 = 1
                run 1 = 0
                order 1 6 = 1
                setDrum 6
                order 1 6 = -1
                lay
                order 7 6 = 0
                order 0 6 = 1
                order 5 6 = -1
                """);
        Sentences.holds(7, "7: its open bribe (0 if none is open);", """
                program D12 o0100--01 o01----00
                order 0 7 = 0
                lay
                order 0 7 = 1
                order 1 7 = 0
                change 0 4 99
                order 0 7 = 1
                move 0 0
                order 0 7 = 0
                lay
                order 0 7 = 99
                run 0 = 2
                order 0 7 = 0
                """);
    }

    private static void orderInARun() {
        Sentences.holds(7, "8: its wait in the last run that read it, when it was read there last (NONE if it never was read)", """
                program D12 o0900--50 o01----00 o0101--00
                order 0 8 = -1
                move 0 0
                move 1 2
                turn 11
                order 0 8 = -1
                run 0 = 2
                order 0 8 = 2               # not 1, with which it was read first
                order 1 8 = -1
                run 2 = 3
                order 2 8 = -1              # without a place it is not read
                setDrum 12
                order 0 8 = 2
                move 0 5
                order 0 8 = 2
                lay
                order 0 8 = 2
                """);
        Sentences.holds(7, "8: its wait in the last run that read it, when it was read there last (NONE if it never was read)", """
                program D12 o01----00
                lay
                run 0
                order 0 8 = 0
                turn 11
                run 0
                order 0 8 = 11
                time 0 = 12
                order 0 8 = 11
                undo
                order 0 8 = 0
                """);
    }

    private static void author() {
        Sentences.holds(8, "`a`: author, 0 to 3", """
                program D12 o01----07 o31----99 o31----00
                lay
                setDrum 12
                author 0 0 = 1
                author 0 1 = 7
                author 0 2 = 7
                author 1 0 = 0
                author 2 1 = 0
                author 3 0 = 2
                author 3 1 = 99
                author 3 2 = 99
                author 4 0 ! IndexOutOfBoundsException
                author -1 0 ! IndexOutOfBoundsException
                """);
        Sentences.holds(8, "0: the orders of this author; 1: the bribes that this author paid; 2: those that were refunded to this"
                + " author", """
                16 times addOrder 2 1 -1 -1 1
                author 2 0 = 16
                author 1 0 = 0
                change 15 0 1
                author 2 0 = 15
                author 1 0 = 1
                lay
                author 2 1 = 12             # 12 of them have places
                author 1 1 = 0
                setDrum 40
                author 2 2 = 12
                lay
                author 2 1 = 27
                author 1 1 = 1
                """);
        Sentences.holds(8, "Returns that number.", """
                addOrder 1 1 -1 -1 0
                author 1 0 = 1
                author 1 1 = 0
                author 1 2 = 0
                """);
        Sentences.holds(8, "Throws `IndexOutOfBoundsException` if there is no such author", """
                author 4 0 ! IndexOutOfBoundsException
                author -1 0 ! IndexOutOfBoundsException
                author -2147483648 2 ! IndexOutOfBoundsException
                author 2147483647 3 ! IndexOutOfBoundsException
                author 0 0 = 0
                author 3 0 = 0
                """);
        Sentences.holds(8, "Throws `IllegalArgumentException` if what is not 0 to 2", """
                author 0 -1 ! IllegalArgumentException
                author 3 3 ! IllegalArgumentException
                author 0 -2147483648 ! IllegalArgumentException
                author 0 2147483647 ! IllegalArgumentException
                author 3 2 = 0
                """);
    }

    private static void at() {
        Sentences.holds(9, "`place`: place", """
                program D40 o01----00
                move 0 39
                at 0 = -1
                at 38 = -1
                at 39 = 0
                at 40 ! IndexOutOfBoundsException
                """);
        Sentences.holds(9, "Returns the order there; NONE if there is none.", """
                program D16 16*o01----00
                at 0 = -1
                lay
                at 0 = 0
                at 1 = 1
                at 15 = 15
                setDrum 16
                at 0 = -1
                at 15 = -1
                """);
        Sentences.holds(9, "Throws `IndexOutOfBoundsException` if there is no such place", """
                at -1 ! IndexOutOfBoundsException
                at 12 ! IndexOutOfBoundsException
                at -2147483648 ! IndexOutOfBoundsException
                at 2147483647 ! IndexOutOfBoundsException
                setDrum 6
                at 5 = -1
                at 6 ! IndexOutOfBoundsException
                undo
                at 11 = -1
                """);
    }

    private static void jump() {
        Sentences.holds(10, "`i`: 0 or more: which jump, in the order in which they were made first", """
                program D12 o0102--00 o0115--00 o0101--00
                jump 0 0 = -1
                lay
                run 0 = 3
                jump 0 0 = 0
                jump 1 0 = 2
                jump 2 0 = 1
                run 2 = 3
                jump 0 0 = 0
                jump 2 0 = 1
                jump 3 0 = -1
                """);
        Sentences.holds(10, "`what`: 0: the order from which it was made; 1: the order to which; 2: how often", """
                program D12 o0115--00
                lay
                run 0 = 3
                run 0 = 3
                jump 0 0 = 0
                jump 0 1 = 15
                jump 0 2 = 2
                """);
        Sentences.holds(10, "Returns that number; NONE if there are not so many jumps.", """
                program D12 o0101--00 o0100--00
                jump 0 2 = -1
                lay
                run 0 = 2
                jump 1 0 = 1
                jump 1 1 = 0
                jump 1 2 = 49
                jump 2 0 = -1
                jump 2 1 = -1
                jump 2 2 = -1
                jump 256 2 = -1
                jump 2147483647 0 = -1
                """);
        Sentences.holds(10, "Throws `IllegalArgumentException` if i is negative, or what is not 0 to 2", """
                program D12 o0101--00
                lay
                run 0 = 3
                jump -1 0 ! IllegalArgumentException
                jump -2147483648 2 ! IllegalArgumentException
                jump 0 -1 ! IllegalArgumentException
                jump 0 3 ! IllegalArgumentException
                jump 1 -1 ! IllegalArgumentException
                jump 1 3 ! IllegalArgumentException
                jump 0 2147483647 ! IllegalArgumentException
                jump 0 0 = 0
                """);
    }

    private static void chain() {
        String sentence = "Returns the number of different orders that there are in the chain: this one, its next one, and so on, up to"
                + " the first that is missing, has no next one, or was met already (places and what orders expect do not matter).";
        Sentences.holds(11, sentence, """
                program D12 o0101--00 o0102--00
                chain 0 = 2                 # there is no order 2
                chain 1 = 1
                addOrder 0 1 -1 0 0
                chain 0 = 3
                chain 2 = 1                 # has no next one
                lay
                chain 0 = 3
                change 2 2 2
                chain 0 = 3
                chain 2 = 1                 # met already
                change 2 2 1
                chain 0 = 3
                chain 2 = 2
                change 2 2 0
                chain 2 = 3
                change 2 2 15
                chain 0 = 3
                """);
        Sentences.holds(11, sentence, """
                text D40 o0101--00 o0102--00 o0103--00 o0104--00 o0105--00 o0106--00 o0107--00 o0108--00
                text o0109--00 o0110--00 o0111--00 o0112--00 o0113--00 o0114--00 o0115--00 o01----00
                load = 16
                chain 0 = 16
                chain 15 = 1
                ring 0 = 0
                ring 15 = 0
                change 15 2 0
                chain 0 = 16
                chain 15 = 16
                ring 0 = 16
                ring 15 = 16
                change 15 2 1
                chain 0 = 16
                chain 15 = 15
                ring 0 = 15
                change 15 2 15
                chain 0 = 16
                ring 0 = 1
                ring 15 = 1
                """);
        Sentences.holds(11, "`o`: order", """
                program D12 15*o01----00 o0115--00
                chain 0 = 1
                chain 15 = 1
                chain 16 ! IndexOutOfBoundsException
                """);
        Sentences.holds(11, "Throws `IndexOutOfBoundsException` if there is no such order", """
                chain 0 ! IndexOutOfBoundsException
                addOrder 0 1 -1 -1 0
                chain 0 = 1
                chain 1 ! IndexOutOfBoundsException
                chain -1 ! IndexOutOfBoundsException
                chain -2147483648 ! IndexOutOfBoundsException
                chain 2147483647 ! IndexOutOfBoundsException
                """);
    }

    private static void ring() {
        String sentence = "Returns the number of orders in the ring to which the chain of this order comes (1 for an order that is its"
                + " own next one); 0 if it ends.";
        Sentences.holds(12, sentence, """
                program D12 o0101--00 o0102--00
                ring 0 = 0                  # there is no order 2
                addOrder 0 1 -1 0 0
                ring 0 = 0
                ring 2 = 0
                change 2 2 2
                ring 2 = 1
                ring 0 = 1
                change 2 2 1
                ring 2 = 2
                ring 1 = 2
                ring 0 = 2
                change 2 2 0
                ring 0 = 3
                ring 2 = 3
                change 2 2 3
                ring 0 = 0
                """);
        Sentences.holds(12, "`o`: order", """
                program D12 15*o01----00 o0115--00
                ring 0 = 0
                ring 15 = 1
                ring 16 ! IndexOutOfBoundsException
                """);
        Sentences.holds(12, "Throws `IndexOutOfBoundsException` if there is no such order", """
                ring 0 ! IndexOutOfBoundsException
                addOrder 0 1 -1 -1 0
                ring 0 = 0
                ring 1 ! IndexOutOfBoundsException
                ring -1 ! IndexOutOfBoundsException
                ring -2147483648 ! IndexOutOfBoundsException
                ring 2147483647 ! IndexOutOfBoundsException
                """);
    }
}
