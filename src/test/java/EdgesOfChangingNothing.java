/**
 * Calls that change nothing, refused ones and those that only look, each on a drum on which all that could change
 * stands: a text, remembered states, both save slots, open bribes, jumps.
 */
final class EdgesOfChangingNothing {
    private static final String LIVED = """
            program D12 o0101--50 o11----40
            save 0
            lay
            run 0
            turn 1
            save 1
            lay
            turn 2
            """;

    private EdgesOfChangingNothing() {
    }

    static void hold() {
        refused();
        refusedByTheText();
        refusedByTheOrders();
        refusedByTheMemory();
        refusedByTheSlots();
        looks();
    }

    private static void refused(String run) {
        Sentences.holds(Sentences.TERMS, "A call that throws an exception changes nothing.", run);
    }

    private static void refused() {
        refused(LIVED + """
                append -1 ! IllegalArgumentException
                append 256 ! IllegalArgumentException
                about -1 ! IllegalArgumentException
                about 10 ! IllegalArgumentException
                order 2 0 ! IndexOutOfBoundsException
                order -1 0 ! IndexOutOfBoundsException
                order 0 9 ! IllegalArgumentException
                order 1 -1 ! IllegalArgumentException
                author 4 0 ! IndexOutOfBoundsException
                author -1 0 ! IndexOutOfBoundsException
                author 3 3 ! IllegalArgumentException
                author 0 -1 ! IllegalArgumentException
                at 12 ! IndexOutOfBoundsException
                at -1 ! IndexOutOfBoundsException
                jump -1 0 ! IllegalArgumentException
                jump 0 3 ! IllegalArgumentException
                jump 0 -1 ! IllegalArgumentException
                chain 2 ! IndexOutOfBoundsException
                chain -1 ! IndexOutOfBoundsException
                ring 2 ! IndexOutOfBoundsException
                ring -1 ! IndexOutOfBoundsException
                """);
        refused(LIVED + """
                setDrum 5 ! IllegalArgumentException
                setDrum 41 ! IllegalArgumentException
                addOrder 4 1 0 0 0 ! IllegalArgumentException
                addOrder 0 10 0 0 0 ! IllegalArgumentException
                addOrder 0 1 16 0 0 ! IllegalArgumentException
                addOrder 0 1 0 16 0 ! IllegalArgumentException
                addOrder 0 1 0 0 100 ! IllegalArgumentException
                change 2 0 0 ! IndexOutOfBoundsException
                change -1 0 0 ! IndexOutOfBoundsException
                change 0 5 0 ! IllegalArgumentException
                change 0 0 4 ! IllegalArgumentException
                change 0 1 0 ! IllegalArgumentException
                change 0 2 16 ! IllegalArgumentException
                change 0 3 -2 ! IllegalArgumentException
                change 0 4 100 ! IllegalArgumentException
                move 2 5 ! IndexOutOfBoundsException
                move 0 12 ! IndexOutOfBoundsException
                move 0 2 ! IllegalStateException
                run 2 ! IndexOutOfBoundsException
                run -1 ! IndexOutOfBoundsException
                turn 0 ! IllegalArgumentException
                turn 100 ! IllegalArgumentException
                """);
        refused(LIVED + """
                waits 2 ! IndexOutOfBoundsException
                waits -1 ! IndexOutOfBoundsException
                time 2 ! IndexOutOfBoundsException
                time -1 ! IndexOutOfBoundsException
                bestPlace 2 0 ! IndexOutOfBoundsException
                bestPlace 0 2 ! IndexOutOfBoundsException
                leastBribe 2 ! IndexOutOfBoundsException
                leastBribe -1 ! IndexOutOfBoundsException
                saves 2 ! IndexOutOfBoundsException
                saves -1 ! IndexOutOfBoundsException
                runScript 0 20000 ! IllegalArgumentException
                runScript 4 20000 ! IllegalArgumentException
                runScript 1 -1 ! IllegalArgumentException
                runScript 1 100000 ! IllegalArgumentException
                simulate 0 0 ! IllegalArgumentException
                simulate 0 51 ! IllegalArgumentException
                save 2 ! IndexOutOfBoundsException
                save -1 ! IndexOutOfBoundsException
                restore 2 ! IndexOutOfBoundsException
                restore -1 ! IndexOutOfBoundsException
                undo = 4
                order 0 7 = 50
                """);
    }

    private static void refusedByTheText() {
        refused(LIVED + """
                append 120
                load ! IllegalStateException
                clearText = 22
                load ! IllegalStateException
                """);
        refused(LIVED + """
                138 times append 68 = 159
                append 68 = 160
                append 68 ! IllegalStateException
                append 256 ! IllegalArgumentException
                load ! IllegalStateException
                undo = 4
                """);
    }

    private static void refusedByTheOrders() {
        refused("""
                program D06
                save 0
                7 times addOrder 1 1 -1 -1 10 = 6
                lay
                run 0
                save 1
                8 times addOrder 0 9 0 0 50 = 14
                addOrder 2 1 -1 -1 60 = 15
                addOrder 0 1 -1 -1 0 ! IllegalStateException
                addOrder 0 1 -1 -1 100 ! IllegalArgumentException
                move 15 0 ! IllegalStateException
                undo = 13
                """);
    }

    private static void refusedByTheMemory() {
        refused(LIVED + """
                restore 1
                undo ! IllegalStateException
                restore 0
                undo ! IllegalStateException
                """);
        refused("""
                program D12 o01----50
                save 0
                lay
                save 1
                undo = 0
                undo ! IllegalStateException
                restore 1
                order 0 7 = 50
                """);
        // with 14 remembered states, one more would make the oldest forgotten
        refused("""
                program D12 o01----50
                lay
                13 times turn 1
                setDrum 41 ! IllegalArgumentException
                addOrder 0 0 0 0 0 ! IllegalArgumentException
                change 0 4 100 ! IllegalArgumentException
                move 0 12 ! IndexOutOfBoundsException
                run 1 ! IndexOutOfBoundsException
                turn 100 ! IllegalArgumentException
                restore 0 ! IllegalStateException
                14 times undo = 0
                order 0 5 = -1
                """);
    }

    private static void refusedByTheSlots() {
        refused("""
                program D12 o01----50
                lay
                save 0
                turn 1
                restore 1 ! IllegalStateException
                restore 0 = 1
                restore 1 ! IllegalStateException
                """);
        refused("""
                program D12 o01----50
                lay
                save 1
                turn 1
                restore 0 ! IllegalStateException
                restore 1 = 1
                restore 0 ! IllegalStateException
                """);
    }

    private static void looks() {
        Sentences.holds(Sentences.TERMS, "these and all following methods up to the save slots change nothing.", LIVED + """
                waits 0 = 5
                time 0 = 9
                bestPlace 1 0 = 2
                bestPlace 0 0 = 0           # as good as 7, where the wait for 1 is 5
                leastBribe 1 = 0
                saves 0 = 0
                runScript 1 10000 = -1
                runScript 1 20000 = -1
                runScript 1 30011 = -1
                runScript 1 40099 = -1
                runScript 1 50099 = -1
                runScript 1 60199 = -1
                runScript 1 80001 = -1
                runScript 1 99999 = 0
                simulate 0 50
                """);
        Sentences.holds(4, "Checks the text.", LIVED + """
                errorPosition = -1
                append 120
                errorPosition = 21
                """);
        Sentences.holds(6, "Returns a number.", LIVED + """
                about 0 = 12
                about 2 = 7
                about 7 = 90
                about 9 = 0
                """);
        Sentences.holds(7, "Returns a number of an order.", LIVED + """
                order 0 0 = 0
                order 1 8 = 0
                """);
        Sentences.holds(8, "Returns a number of an author.", LIVED + """
                author 1 1 = 80
                author 0 2 = 50
                """);
        Sentences.holds(9, "Returns what stands at a place.", LIVED + """
                at 0 = 0
                at 2 = 1
                at 11 = -1
                """);
        Sentences.holds(10, "Returns a jump.", LIVED + """
                jump 0 2 = 1
                jump 1 0 = -1
                """);
        Sentences.holds(11, "Tells how far a chain of next orders goes.", LIVED + """
                chain 0 = 2
                chain 1 = 1
                """);
        Sentences.holds(12, "Tells whether a chain comes back.", LIVED + """
                ring 0 = 0
                ring 1 = 0
                """);
    }
}
