/** The terms: the drum, the orders, actions and undo, exceptions; and the promise for a new object. */
final class EdgesOfTerms {
    private EdgesOfTerms() {
    }

    static void hold() {
        calls();
        newObject();
        drum();
        orders();
        actions();
        remembering();
        whatTheStateIs();
        exceptions();
    }

    private static void calls() {
        Sentences.holds(Sentences.TERMS, "An object is used for at most 512 calls after it has been made", """
                511 times turn 99 = 9       # 511 * 99 = 50589
                turn 1 = 10
                """);
        Sentences.holds(Sentences.TERMS, "An object is used for at most 512 calls after it has been made", """
                setDrum 40
                addOrder 0 9 0 0 99
                lay
                508 times run 0 = 2
                lay = 0
                """);
    }

    private static void newObject() {
        Sentences.holds(1, "Creates a drum of 12 places without orders.", """
                about 0 = 12
                about 1 = 0
                about 2 = 0
                about 3 = 0
                about 4 = 0
                about 5 = 0
                about 6 = 0
                about 7 = 0
                about 8 = 0
                about 9 = -1
                at 0 = -1
                at 11 = -1
                at 12 ! IndexOutOfBoundsException
                jump 0 0 = -1
                author 0 0 = 0
                author 3 2 = 0
                errorPosition = 0
                lay = 0
                clearText = 0
                """);
        Sentences.holds(1, "Creates a drum of 12 places without orders.", """
                order 0 0 ! IndexOutOfBoundsException
                chain 0 ! IndexOutOfBoundsException
                ring 0 ! IndexOutOfBoundsException
                change 0 0 0 ! IndexOutOfBoundsException
                move 0 0 ! IndexOutOfBoundsException
                run 0 ! IndexOutOfBoundsException
                waits 0 ! IndexOutOfBoundsException
                time 0 ! IndexOutOfBoundsException
                bestPlace 0 0 ! IndexOutOfBoundsException
                leastBribe 0 ! IndexOutOfBoundsException
                saves 0 ! IndexOutOfBoundsException
                undo ! IllegalStateException
                load ! IllegalStateException
                restore 0 ! IllegalStateException
                restore 1 ! IllegalStateException
                runScript 1 10000 = 0
                runScript 1 20000 = -1
                simulate 0 50 = 0
                """);
        Sentences.holds(Sentences.TERMS, "`NONE = -1`: There is no such result, or none of it.", """
                addOrder 0 1 -1 -1 0
                order 0 2 = -1
                order 0 5 = -1
                """);
    }

    private static void drum() {
        Sentences.holds(Sentences.TERMS, "The drum has 6 to 40 places, numbered from 0 around, at first 12.", """
                about 0 = 12
                at 0 = -1
                at 11 = -1
                at 12 ! IndexOutOfBoundsException
                setDrum 5 ! IllegalArgumentException
                setDrum 6 = 12
                at 5 = -1
                at 6 ! IndexOutOfBoundsException
                setDrum 41 ! IllegalArgumentException
                setDrum 40 = 6
                at 39 = -1
                at 40 ! IndexOutOfBoundsException
                at -1 ! IndexOutOfBoundsException
                """);
        Sentences.holds(Sentences.TERMS, "Time is told in ticks, from 0; in the tick t the place with the number t, taken as"
                + " the remainder by the number of places, comes by.", """
                about 2 = 0
                about 3 = 0
                turn 11 = 11
                about 3 = 11
                turn 1 = 0
                about 3 = 0
                about 2 = 12
                setDrum 6
                about 3 = 0
                turn 5 = 5
                turn 1 = 0
                setDrum 40
                about 3 = 18
                turn 21 = 39
                turn 1 = 0
                about 2 = 40
                """);
    }

    private static void orders() {
        Sentences.holds(Sentences.TERMS, "There are at most 16 orders, numbered from 0 in the order in which they were added.", """
                addOrder 3 1 -1 -1 0 = 0
                14 times addOrder 1 1 -1 -1 0 = 14
                addOrder 2 1 -1 -1 0 = 15
                about 1 = 16
                order 0 0 = 3
                order 14 0 = 1
                order 15 0 = 2
                order 16 0 ! IndexOutOfBoundsException
                addOrder 0 1 -1 -1 0 ! IllegalStateException
                """);
        Sentences.holds(Sentences.TERMS, "An order has an author from 0 to 3, a work of 1 to 9 ticks, a next order (a number"
                + " from 0 to 15, whether there is such an order or not) or none, an order that it expects (likewise) or none,"
                + " a bribe from 0 to 99, and a place or none.", """
                addOrder 0 1 -1 -1 0 = 0
                addOrder 3 9 15 15 99 = 1
                addOrder 1 5 0 0 50 = 2
                order 0 0 = 0
                order 0 1 = 1
                order 0 2 = -1
                order 0 3 = -1
                order 0 4 = 0
                order 0 5 = -1
                order 1 0 = 3
                order 1 1 = 9
                order 1 2 = 15
                order 1 3 = 15
                order 1 4 = 99
                order 2 2 = 0
                order 2 3 = 0
                move 2 0 = 0
                order 2 5 = 0
                """);
        Sentences.holds(Sentences.TERMS, "No two orders have the same place.", """
                program D12 o01----00 o01----00
                move 0 5 = 0
                move 1 5 ! IllegalStateException
                move 1 6 = 0
                at 5 = 0
                at 6 = 1
                """);
        Sentences.holds(Sentences.TERMS, "No two orders have the same place.", """
                program D16 16*o01----00
                lay = 120
                about 4 = 16
                order 0 5 = 0
                order 1 5 = 1
                order 14 5 = 14
                order 15 5 = 15
                at 0 = 0
                at 15 = 15
                """);
    }

    private static void actions() {
        Sentences.holds(Sentences.TERMS, "Each call of one of them that does not throw an exception is an action, also if"
                + " nothing becomes different (undo is none).", """
                program D12 o01----00
                setDrum 12 = 12
                change 0 4 0 = 0
                run 0 = 3
                run 0 = 3
                move 0 0 = 0
                move 0 0 = 0
                lay = 0
                lay = 0
                undo = 7
                undo = 6
                order 0 6 = -1
                """);
        Sentences.holds(Sentences.TERMS, "Each call of one of them that does not throw an exception is an action, also if"
                + " nothing becomes different (undo is none).", """
                addOrder 0 1 -1 -1 0
                turn 5
                undo = 1
                undo = 0
                undo ! IllegalStateException
                about 1 = 0
                about 2 = 0
                """);
        Sentences.holds(Sentences.TERMS, "load and restore are not actions.", """
                program D07
                undo ! IllegalStateException
                save 0
                undo ! IllegalStateException
                restore 0 = 0
                undo ! IllegalStateException
                about 0 = 7
                """);
    }

    private static void remembering() {
        String sentence = "At most 14 states are remembered; when one more is remembered, the oldest one is forgotten.";
        Sentences.holds(Sentences.TERMS, sentence, """
                14 times turn 1 = 2
                undo = 13
                about 2 = 13
                13 times undo = 0
                about 2 = 0
                undo ! IllegalStateException
                """);
        Sentences.holds(Sentences.TERMS, sentence, """
                15 times turn 1 = 3
                undo = 13
                13 times undo = 0
                about 2 = 1
                undo ! IllegalStateException
                """);
        Sentences.holds(Sentences.TERMS, sentence, """
                29 times turn 1 = 5
                undo = 13
                13 times undo = 0
                about 2 = 15
                undo ! IllegalStateException
                """);
        Sentences.holds(Sentences.TERMS, sentence, """
                15 times turn 1 = 3
                3 times undo = 11           # those ahead of the turns 2 to 12, in the tick 12
                4 times turn 1 = 4          # one more than there is room for
                14 times undo = 0
                about 2 = 2
                undo ! IllegalStateException
                """);
        Sentences.holds(Sentences.TERMS, "Before each action, the state is remembered.", """
                program D12 o0101--50 o11----40
                setDrum 9
                lay
                run 0
                turn 1
                move 0 8
                change 1 0 2
                addOrder 3 9 15 15 99
                undo = 6
                about 1 = 2
                undo = 5
                order 1 0 = 1
                undo = 4
                order 0 5 = 0
                order 0 7 = 50
                about 6 = 0
                undo = 3
                about 2 = 4
                undo = 2
                about 2 = 0
                about 9 = -1
                jump 0 0 = -1
                order 1 7 = 40
                order 1 8 = -1
                undo = 1
                order 0 5 = -1
                about 5 = 0
                undo = 0
                about 0 = 12
                """);
    }

    private static void whatTheStateIs() {
        Sentences.holds(Sentences.TERMS, "change the state, which consists of everything but the text and the save slots.", """
                text D12
                turn 1
                append 120 = 4
                save 1 = 0
                undo = 0
                about 2 = 0
                errorPosition = 3
                clearText = 4
                restore 1 = 0
                about 2 = 1
                """);
        Sentences.holds(Sentences.TERMS, "change the state, which consists of everything but the text and the save slots.", """
                text D12
                save 0
                turn 1
                clearText = 3
                undo = 0
                clearText = 0
                """);
    }

    private static void exceptions() {
        String sentence = "If several exceptions apply to a call, the one that its description names first is thrown.";
        Sentences.holds(Sentences.TERMS, sentence, """
                160 times append 68
                append 256 ! IllegalArgumentException
                append -1 ! IllegalArgumentException
                """);
        Sentences.holds(Sentences.TERMS, sentence, """
                16 times addOrder 0 1 -1 -1 0
                addOrder 4 1 -1 -1 0 ! IllegalArgumentException
                addOrder 0 0 -1 -1 0 ! IllegalArgumentException
                addOrder 0 1 16 -1 0 ! IllegalArgumentException
                addOrder 0 1 -1 -2 0 ! IllegalArgumentException
                addOrder 0 1 -1 -1 100 ! IllegalArgumentException
                """);
        Sentences.holds(Sentences.TERMS, sentence, """
                program D12 o01----00
                move 0 0
                order 1 9 ! IndexOutOfBoundsException
                order -1 -1 ! IndexOutOfBoundsException
                author 4 3 ! IndexOutOfBoundsException
                author -1 -1 ! IndexOutOfBoundsException
                change 1 5 0 ! IndexOutOfBoundsException
                change -1 0 4 ! IndexOutOfBoundsException
                move 1 0 ! IndexOutOfBoundsException
                move -1 0 ! IndexOutOfBoundsException
                restore 2 ! IndexOutOfBoundsException
                restore -1 ! IndexOutOfBoundsException
                """);
        Sentences.holds(Sentences.TERMS, "A call that throws an exception changes nothing.", """
                program D12 o0101--50 o11----40
                lay
                save 0
                run 0
                turn 1
                append 120
                load ! IllegalStateException
                append 256 ! IllegalArgumentException
                setDrum 41 ! IllegalArgumentException
                addOrder 0 10 0 0 0 ! IllegalArgumentException
                change 0 4 100 ! IllegalArgumentException
                move 0 2 ! IllegalStateException
                run 2 ! IndexOutOfBoundsException
                turn 100 ! IllegalArgumentException
                runScript 4 0 ! IllegalArgumentException
                simulate 0 51 ! IllegalArgumentException
                save 2 ! IndexOutOfBoundsException
                restore 1 ! IllegalStateException
                undo = 2
                """);
        Sentences.holds(Sentences.TERMS, "A call that throws an exception changes nothing.", """
                14 times turn 1
                setDrum 5 ! IllegalArgumentException
                addOrder 0 1 16 0 0 ! IllegalArgumentException
                change 0 0 0 ! IndexOutOfBoundsException
                move 0 0 ! IndexOutOfBoundsException
                run 0 ! IndexOutOfBoundsException
                turn 0 ! IllegalArgumentException
                restore 0 ! IllegalStateException
                load ! IllegalStateException
                14 times undo = 0
                about 2 = 0
                """);
    }
}
