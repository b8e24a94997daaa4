/** The promises 28 and 29: save, restore. */
final class EdgesOfSlots {
    private EdgesOfSlots() {
    }

    static void hold() {
        save();
        restore();
        restoreRefused();
    }

    private static void save() {
        Sentences.holds(28, "`slot`: 0 or 1", """
                save 0 = 0
                turn 1
                save 1 = 0
                restore 0
                about 2 = 0
                restore 1
                about 2 = 1
                save 2 ! IndexOutOfBoundsException
                save -1 ! IndexOutOfBoundsException
                """);
        Sentences.holds(28, "Stores the present state in a save slot.", """
                program D12 o0101--50 o11----40
                lay
                run 0
                save 0 = 2
                turn 1
                save 1 = 2
                undo = 2                    # save is no action
                setDrum 6
                change 0 4 1
                save 1 = 2
                restore 0 = 2
                about 0 = 12
                about 2 = 4
                jump 0 2 = 1
                order 0 4 = 50
                restore 1 = 2
                about 0 = 6
                order 0 4 = 1
                """);
        Sentences.holds(28, "Returns the number of orders.", """
                save 0 = 0
                addOrder 0 1 -1 -1 0
                save 0 = 1
                15 times addOrder 0 1 -1 -1 0
                save 1 = 16
                undo
                save 0 = 15
                """);
        Sentences.holds(28, "Throws `IndexOutOfBoundsException` if there is no such save slot", """
                turn 1
                save -1 ! IndexOutOfBoundsException
                save 2 ! IndexOutOfBoundsException
                restore 0 ! IllegalStateException
                save 0
                turn 1
                save -1 ! IndexOutOfBoundsException
                save 2 ! IndexOutOfBoundsException
                save -2147483648 ! IndexOutOfBoundsException
                save 2147483647 ! IndexOutOfBoundsException
                restore 1 ! IllegalStateException
                restore 0
                about 2 = 1
                """);
    }

    private static void restore() {
        Sentences.holds(29, "`slot`: 0 or 1", """
                save 0
                turn 1
                save 1
                restore 0 = 0
                about 2 = 0
                restore 1 = 0
                about 2 = 1
                restore 2 ! IndexOutOfBoundsException
                restore -1 ! IndexOutOfBoundsException
                """);
        Sentences.holds(29, "Replaces the state by the one in a save slot, and forgets all remembered states. The save slot keeps it.", """
                turn 1
                save 1
                14 times turn 1
                restore 1 = 0
                undo ! IllegalStateException
                turn 1
                undo = 0
                undo ! IllegalStateException
                14 times turn 1
                restore 1 = 0
                about 2 = 1
                restore 1 = 0
                about 2 = 1
                """);
        Sentences.holds(29, "Replaces the state by the one in a save slot, and forgets all remembered states. The save slot keeps it.", """
                program D12 o0101--00 o0102--00 o01----00
                lay
                save 0
                run 0 = 0
                save 1
                restore 0
                about 8 = 0
                jump 0 0 = -1
                change 0 2 2
                run 0 = 0
                jump 0 1 = 2
                restore 1
                about 8 = 2
                jump 0 0 = 0
                jump 0 1 = 1
                jump 0 2 = 1
                jump 1 0 = 1
                jump 1 1 = 2
                jump 2 0 = -1
                """);
        Sentences.holds(29, "Returns the number of orders then.", """
                save 0
                16 times addOrder 0 1 -1 -1 0
                save 1
                restore 0 = 0
                about 1 = 0
                order 0 0 ! IndexOutOfBoundsException
                restore 1 = 16
                about 1 = 16
                order 15 1 = 1
                """);
    }

    private static void restoreRefused() {
        Sentences.holds(29, "Throws `IndexOutOfBoundsException` if there is no such save slot", """
                save 0
                save 1
                turn 1
                restore -1 ! IndexOutOfBoundsException
                restore 2 ! IndexOutOfBoundsException
                restore -2147483648 ! IndexOutOfBoundsException
                restore 2147483647 ! IndexOutOfBoundsException
                about 2 = 1
                undo = 0
                """);
        Sentences.holds(29, "Throws `IllegalStateException` if nothing has been saved in it since the last load", """
                text D12
                turn 1
                restore 0 ! IllegalStateException
                restore 1 ! IllegalStateException
                save 1
                restore 0 ! IllegalStateException
                restore 1 = 0
                save 0
                load
                turn 2
                restore 0 ! IllegalStateException
                restore 1 ! IllegalStateException
                save 0
                restore 1 ! IllegalStateException
                restore 0 = 0
                about 2 = 2
                """);
    }
}
