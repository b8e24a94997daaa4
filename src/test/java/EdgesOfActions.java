/** The promises 13 to 20: setDrum, addOrder, change, move, lay, run, turn, undo. */
final class EdgesOfActions {
    private EdgesOfActions() {
    }

    static void hold() {
        setDrum();
        addOrder();
        change();
        changeRefused();
        move();
        moveRefused();
        lay();
        run();
        turn();
        undo();
    }

    private static void setDrum() {
        Sentences.holds(13, "`places`: 6 to 40", """
                setDrum 6 = 12
                about 0 = 6
                setDrum 40 = 6
                about 0 = 40
                setDrum 7 = 40
                setDrum 39 = 7
                setDrum 5 ! IllegalArgumentException
                setDrum 41 ! IllegalArgumentException
                """);
        Sentences.holds(13, "Takes a drum with another number of places; no order has a place then.", """
                program D12 o01----50 15*o01----00
                lay
                turn 11
                setDrum 6
                about 4 = 0
                order 0 5 = -1
                order 11 5 = -1
                order 0 6 = -1
                order 0 7 = 0
                at 0 = -1
                at 5 = -1
                about 2 = 11
                about 3 = 5
                author 0 2 = 50
                """);
        Sentences.holds(13, "Returns the previous number.", """
                setDrum 12 = 12
                setDrum 6 = 12
                undo
                setDrum 40 = 12
                setDrum 40 = 40
                """);
        Sentences.holds(13, "Throws `IllegalArgumentException` if places is out of range", """
                program D12 o01----50
                lay
                save 0
                setDrum 5 ! IllegalArgumentException
                setDrum 41 ! IllegalArgumentException
                setDrum 0 ! IllegalArgumentException
                setDrum -6 ! IllegalArgumentException
                setDrum -2147483648 ! IllegalArgumentException
                setDrum 2147483647 ! IllegalArgumentException
                order 0 5 = 0
                undo = 0
                """);
    }

    private static void addOrder() {
        Sentences.holds(14, "`author`: 0 to 3", """
                addOrder 0 1 -1 -1 0 = 0
                addOrder 3 1 -1 -1 0 = 1
                addOrder -1 1 -1 -1 0 ! IllegalArgumentException
                addOrder 4 1 -1 -1 0 ! IllegalArgumentException
                order 0 0 = 0
                order 1 0 = 3
                """);
        Sentences.holds(14, "`work`: 1 to 9", """
                addOrder 0 1 -1 -1 0 = 0
                addOrder 0 9 -1 -1 0 = 1
                addOrder 0 0 -1 -1 0 ! IllegalArgumentException
                addOrder 0 10 -1 -1 0 ! IllegalArgumentException
                order 0 1 = 1
                order 1 1 = 9
                """);
        Sentences.holds(14, "`next`: 0 to 15, or NONE", """
                addOrder 0 1 0 -1 0 = 0
                addOrder 0 1 15 -1 0 = 1
                addOrder 0 1 -1 -1 0 = 2
                addOrder 0 1 -2 -1 0 ! IllegalArgumentException
                addOrder 0 1 16 -1 0 ! IllegalArgumentException
                order 0 2 = 0
                order 1 2 = 15
                order 2 2 = -1
                """);
        Sentences.holds(14, "`expects`: 0 to 15, or NONE", """
                addOrder 0 1 -1 0 0 = 0
                addOrder 0 1 -1 15 0 = 1
                addOrder 0 1 -1 -1 0 = 2
                addOrder 0 1 -1 -2 0 ! IllegalArgumentException
                addOrder 0 1 -1 16 0 ! IllegalArgumentException
                order 0 3 = 0
                order 1 3 = 15
                order 2 3 = -1
                """);
        Sentences.holds(14, "`bribe`: 0 to 99", """
                addOrder 0 1 -1 -1 0 = 0
                addOrder 0 1 -1 -1 99 = 1
                addOrder 0 1 -1 -1 -1 ! IllegalArgumentException
                addOrder 0 1 -1 -1 100 ! IllegalArgumentException
                order 0 4 = 0
                order 1 4 = 99
                """);
        Sentences.holds(14, "Adds an order, without a place.", """
                lay
                addOrder 0 1 -1 -1 50
                order 0 5 = -1
                order 0 6 = -1
                order 0 7 = 0
                order 0 8 = -1
                author 0 1 = 0
                about 4 = 0
                lay
                run 0
                undo
                undo
                undo
                addOrder 1 2 3 4 5 = 0      # nothing is left of the one that was taken back
                order 0 5 = -1
                order 0 6 = -1
                order 0 7 = 0
                order 0 8 = -1
                """);
        Sentences.holds(14, "Returns its number.", """
                addOrder 0 1 -1 -1 0 = 0
                addOrder 0 1 -1 -1 0 = 1
                undo
                addOrder 0 1 -1 -1 0 = 1
                13 times addOrder 0 1 -1 -1 0 = 14
                addOrder 0 1 -1 -1 0 = 15
                """);
        Sentences.holds(14, "Throws `IllegalArgumentException` if an argument is out of range", """
                turn 1
                addOrder -2147483648 1 -1 -1 0 ! IllegalArgumentException
                addOrder 2147483647 1 -1 -1 0 ! IllegalArgumentException
                addOrder 0 -2147483648 -1 -1 0 ! IllegalArgumentException
                addOrder 0 2147483647 -1 -1 0 ! IllegalArgumentException
                addOrder 0 1 -2147483648 -1 0 ! IllegalArgumentException
                addOrder 0 1 2147483647 -1 0 ! IllegalArgumentException
                addOrder 0 1 -1 -2147483648 0 ! IllegalArgumentException
                addOrder 0 1 -1 2147483647 0 ! IllegalArgumentException
                addOrder 0 1 -1 -1 -2147483648 ! IllegalArgumentException
                addOrder 0 1 -1 -1 2147483647 ! IllegalArgumentException
                about 1 = 0
                undo = 0
                """);
        Sentences.holds(14, "Throws `IllegalStateException` if there are 16 orders", """
                15 times addOrder 0 1 -1 -1 0 = 14
                addOrder 0 1 -1 -1 0 = 15
                addOrder 0 1 -1 -1 0 ! IllegalStateException
                addOrder 3 9 15 15 99 ! IllegalStateException
                undo = 13
                addOrder 3 9 15 15 99 = 15
                addOrder 0 1 -1 -1 0 ! IllegalStateException
                """);
    }

    private static void change() {
        Sentences.holds(15, "`what`: 0: its author; 1: its work; 2: its next order; 3: the one that it expects; 4: its bribe, for later"
                + " layings", """
                addOrder 1 2 3 4 5
                change 0 0 0 = 1
                change 0 1 1 = 2
                change 0 2 2 = 3
                change 0 3 3 = 4
                change 0 4 4 = 5
                order 0 0 = 0
                order 0 1 = 1
                order 0 2 = 2
                order 0 3 = 3
                order 0 4 = 4
                change 0 -1 1 ! IllegalArgumentException
                change 0 5 1 ! IllegalArgumentException
                """);
        Sentences.holds(15, "`v`: the new number, in its range as in addOrder()", """
                addOrder 1 2 3 4 5
                change 0 0 3 = 1
                change 0 0 0 = 3
                change 0 0 -1 ! IllegalArgumentException
                change 0 0 4 ! IllegalArgumentException
                change 0 1 9 = 2
                change 0 1 1 = 9
                change 0 1 0 ! IllegalArgumentException
                change 0 1 10 ! IllegalArgumentException
                change 0 2 15 = 3
                change 0 2 0 = 15
                change 0 2 -1 = 0
                change 0 2 -2 ! IllegalArgumentException
                change 0 2 16 ! IllegalArgumentException
                """);
        Sentences.holds(15, "`v`: the new number, in its range as in addOrder()", """
                addOrder 1 2 3 4 5
                change 0 3 15 = 4
                change 0 3 0 = 15
                change 0 3 -1 = 0
                change 0 3 -2 ! IllegalArgumentException
                change 0 3 16 ! IllegalArgumentException
                change 0 4 99 = 5
                change 0 4 0 = 99
                change 0 4 -1 ! IllegalArgumentException
                change 0 4 100 ! IllegalArgumentException
                """);
        Sentences.holds(15, "(What was paid stays; a new author gets what is refunded from now on.)", """
                program D12 o01----50 o01----30
                lay
                change 0 4 0
                change 0 0 1
                author 0 0 = 1
                author 0 1 = 80
                author 1 1 = 0
                order 0 7 = 50
                order 0 5 = 0
                order 0 6 = 0
                setDrum 12
                author 0 2 = 30
                author 1 2 = 50
                """);
        Sentences.holds(15, "Returns the previous number.", """
                addOrder 0 1 -1 -1 0
                change 0 2 0 = -1
                change 0 2 0 = 0
                change 0 3 15 = -1
                change 0 4 99 = 0
                change 0 4 99 = 99
                change 0 0 3 = 0
                change 0 1 9 = 1
                """);
    }

    private static void changeRefused() {
        Sentences.holds(15, "`o`: order", """
                16 times addOrder 0 1 -1 -1 0
                change 0 0 1 = 0
                change 15 0 2 = 0
                order 0 0 = 1
                order 14 0 = 0
                order 15 0 = 2
                change 16 0 0 ! IndexOutOfBoundsException
                """);
        Sentences.holds(15, "Throws `IndexOutOfBoundsException` if there is no such order", """
                change 0 0 0 ! IndexOutOfBoundsException
                addOrder 0 1 -1 -1 0
                change 1 0 0 ! IndexOutOfBoundsException
                change -1 0 0 ! IndexOutOfBoundsException
                change 1 5 0 ! IndexOutOfBoundsException
                change 1 0 4 ! IndexOutOfBoundsException
                change -2147483648 4 0 ! IndexOutOfBoundsException
                change 2147483647 4 0 ! IndexOutOfBoundsException
                undo = 0
                """);
        Sentences.holds(15, "Throws `IllegalArgumentException` if what or v is out of range", """
                addOrder 0 1 -1 -1 0
                change 0 -1 0 ! IllegalArgumentException
                change 0 5 0 ! IllegalArgumentException
                change 0 -2147483648 0 ! IllegalArgumentException
                change 0 2147483647 0 ! IllegalArgumentException
                change 0 0 -2147483648 ! IllegalArgumentException
                change 0 1 2147483647 ! IllegalArgumentException
                change 0 2 -2147483648 ! IllegalArgumentException
                change 0 3 2147483647 ! IllegalArgumentException
                change 0 4 -2147483648 ! IllegalArgumentException
                undo = 0
                """);
    }

    private static void move() {
        Sentences.holds(16, "Moves an order to a free place, whether it has one or not; its open bribe is refunded.", """
                program D12 o11----50 o21----10
                move 1 5 = 0
                order 1 5 = 5
                order 1 6 = -1
                lay = 1
                move 1 11 = 10
                at 1 = -1
                at 11 = 1
                order 1 7 = 0
                order 0 7 = 50
                author 2 2 = 10
                author 1 2 = 0
                move 1 1 = 0
                at 11 = -1
                """);
        Sentences.holds(16, "`place`: place", """
                program D12 o01----00
                move 0 0 = 0
                order 0 5 = 0
                move 0 11 = 0
                order 0 5 = 11
                move 0 12 ! IndexOutOfBoundsException
                move 0 -1 ! IndexOutOfBoundsException
                setDrum 40
                move 0 39 = 0
                move 0 40 ! IndexOutOfBoundsException
                setDrum 6
                move 0 5 = 0
                move 0 6 ! IndexOutOfBoundsException
                """);
        Sentences.holds(16, "Returns what is refunded.", """
                program D12 o01----99 o01----01 o01----00
                lay
                move 0 5 = 99
                move 0 6 = 0
                move 1 1 = 1                # to its own place
                move 1 1 = 0
                move 2 7 = 0
                """);
    }

    private static void moveRefused() {
        Sentences.holds(16, "`o`: order", """
                16 times addOrder 0 1 -1 -1 0
                move 0 0 = 0
                move 15 1 = 0
                at 0 = 0
                at 1 = 15
                move 16 2 ! IndexOutOfBoundsException
                """);
        Sentences.holds(16, "Throws `IndexOutOfBoundsException` if there is no such order or place", """
                move 0 0 ! IndexOutOfBoundsException
                addOrder 0 1 -1 -1 50
                lay
                move 1 5 ! IndexOutOfBoundsException
                move -1 5 ! IndexOutOfBoundsException
                move 0 12 ! IndexOutOfBoundsException
                move 0 -1 ! IndexOutOfBoundsException
                move 1 0 ! IndexOutOfBoundsException
                move -2147483648 0 ! IndexOutOfBoundsException
                move 2147483647 0 ! IndexOutOfBoundsException
                move 0 -2147483648 ! IndexOutOfBoundsException
                move 0 2147483647 ! IndexOutOfBoundsException
                order 0 7 = 50
                """);
        Sentences.holds(16, "Throws `IllegalStateException` if another order stands there", """
                program D12 o01----50 o01----10
                lay
                move 0 1 ! IllegalStateException
                move 1 0 ! IllegalStateException
                order 0 7 = 50
                order 0 6 = 0
                move 0 0 = 50               # it is no other one
                move 0 2 = 0
                move 1 0 = 10
                move 0 0 ! IllegalStateException
                """);
        Sentences.holds(16, "Throws `IllegalStateException` if another order stands there", """
                program D16 16*o01----00
                lay
                move 0 15 ! IllegalStateException
                move 15 0 ! IllegalStateException
                move 15 14 ! IllegalStateException
                move 15 15 = 0
                """);
    }

    private static void lay() {
        Sentences.holds(17, "Returns the sum of their delays.", """
                lay = 0
                addOrder 0 1 -1 -1 0
                lay = 0
                addOrder 0 1 -1 -1 0
                lay = 1
                14 times addOrder 0 1 -1 -1 0
                lay = 66                    # 0 to 11; the four without a place have none
                setDrum 40
                lay = 120
                """);
        Sentences.holds(17, "Lays the orders.", """
                setDrum 6
                lay = 0
                about 4 = 0
                16 times addOrder 0 1 -1 -1 0
                lay = 15
                about 4 = 6
                """);
    }

    private static void run() {
        Sentences.holds(18, "`o`: order", """
                program D40 15*o01----00 o0115--00
                lay
                run 0 = 0
                run 14 = 0
                run 15 = 2
                run 16 ! IndexOutOfBoundsException
                """);
        Sentences.holds(18, "Returns how the run ends: 0: as told; 1: forged; 2: too long; 3: missing.", """
                program D12 o0101--00 o01----00
                run 0 = 3
                lay
                run 0 = 0
                run 1 = 0
                change 1 3 1
                run 0 = 1
                change 1 2 1
                run 1 = 2
                change 1 2 2
                run 1 = 3
                """);
        Sentences.holds(18, "Throws `IndexOutOfBoundsException` if there is no such order", """
                run 0 ! IndexOutOfBoundsException
                addOrder 0 1 -1 -1 0
                lay
                run 1 ! IndexOutOfBoundsException
                run -1 ! IndexOutOfBoundsException
                run -2147483648 ! IndexOutOfBoundsException
                run 2147483647 ! IndexOutOfBoundsException
                about 9 = -1
                undo = 1
                """);
    }

    private static void turn() {
        Sentences.holds(19, "`ticks`: 1 to 99", """
                turn 1 = 1
                turn 99 = 4
                about 2 = 100
                turn 0 ! IllegalArgumentException
                turn 100 ! IllegalArgumentException
                """);
        Sentences.holds(19, "Returns the place that comes by then.", """
                turn 11 = 11
                turn 1 = 0
                turn 12 = 0
                turn 13 = 1
                setDrum 6
                turn 4 = 5
                turn 1 = 0
                setDrum 40
                turn 37 = 39
                turn 1 = 0
                """);
        Sentences.holds(19, "Throws `IllegalArgumentException` if ticks is out of range", """
                turn 5
                turn 0 ! IllegalArgumentException
                turn -1 ! IllegalArgumentException
                turn 100 ! IllegalArgumentException
                turn -2147483648 ! IllegalArgumentException
                turn 2147483647 ! IllegalArgumentException
                about 2 = 5
                undo = 0
                """);
    }

    private static void undo() {
        Sentences.holds(20, "Takes back the last action that is remembered.", """
                program D06 7*o11----10
                lay
                change 6 4 11
                lay
                undo = 2
                order 5 5 = 5
                order 6 5 = -1
                author 1 1 = 60
                author 1 2 = 0
                undo = 1
                order 6 4 = 10
                undo = 0
                order 0 5 = -1
                """);
        Sentences.holds(20, "Returns how many states are still remembered.", """
                turn 1
                undo = 0
                14 times turn 1
                undo = 13
                turn 1
                turn 1
                undo = 13
                12 times undo = 1
                undo = 0
                """);
        Sentences.holds(20, "Throws `IllegalStateException` if none is remembered", """
                text D12
                undo ! IllegalStateException
                turn 1
                undo = 0
                undo ! IllegalStateException
                15 times turn 1
                14 times undo = 0
                undo ! IllegalStateException
                about 2 = 1
                turn 1
                save 0
                restore 0
                undo ! IllegalStateException
                turn 1
                load
                undo ! IllegalStateException
                """);
    }
}
