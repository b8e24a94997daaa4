/** The promises 21 to 25: waits, time, bestPlace, leastBribe, saves. */
final class EdgesOfWouldBe {
    private EdgesOfWouldBe() {
    }

    static void hold() {
        waits();
        time();
        bestPlace();
        bestPlaceRefused();
        leastBribe();
        leastBribeRefused();
        saves();
    }

    private static void waits() {
        Sentences.holds(21, "Returns the ticks until its place comes by, from the tick of now on (0 if it does so now); NONE if it has"
                + " no place.", """
                program D12 o01----00
                waits 0 = -1
                move 0 0
                waits 0 = 0
                turn 1
                waits 0 = 11
                turn 10
                waits 0 = 1
                turn 1
                waits 0 = 0
                move 0 11
                waits 0 = 11
                turn 11
                waits 0 = 0
                turn 1
                waits 0 = 11
                setDrum 12
                waits 0 = -1
                """);
        Sentences.holds(21, "`o`: order", """
                program D40 16*o01----00
                lay
                waits 0 = 0
                waits 15 = 15
                waits 16 ! IndexOutOfBoundsException
                """);
        Sentences.holds(21, "Throws `IndexOutOfBoundsException` if there is no such order", """
                waits 0 ! IndexOutOfBoundsException
                addOrder 0 1 -1 -1 0
                waits 0 = -1
                waits 1 ! IndexOutOfBoundsException
                waits -1 ! IndexOutOfBoundsException
                waits -2147483648 ! IndexOutOfBoundsException
                waits 2147483647 ! IndexOutOfBoundsException
                """);
    }

    private static void time() {
        String sentence = "Returns by how many ticks run(o) would move the tick of now.";
        Sentences.holds(22, sentence, """
                program D12 o01----00
                time 0 = 0                  # missing
                move 0 11
                time 0 = 13
                turn 11
                time 0 = 2
                turn 1
                time 0 = 13
                change 0 1 9
                time 0 = 21
                run 0 = 0
                about 2 = 33
                """);
        Sentences.holds(22, sentence, """
                program D12 o0900--50
                move 0 11
                time 0 = 1197               # too long
                turn 5
                time 0 = 1192
                run 0 = 2
                about 2 = 1197
                """);
        Sentences.holds(22, sentence, """
                program D12 o0101--00 o01--1500
                lay
                time 0 = 2                  # forged
                change 1 3 0
                time 0 = 4
                change 0 2 2
                time 0 = 2                  # missing
                time 1 = 4
                """);
        Sentences.holds(22, "`o`: order", """
                program D40 16*o01----00
                lay
                time 0 = 2
                time 15 = 17
                time 16 ! IndexOutOfBoundsException
                """);
        Sentences.holds(22, "Throws `IndexOutOfBoundsException` if there is no such order", """
                time 0 ! IndexOutOfBoundsException
                addOrder 0 1 -1 -1 0
                time 0 = 0
                time 1 ! IndexOutOfBoundsException
                time -1 ! IndexOutOfBoundsException
                time -2147483648 ! IndexOutOfBoundsException
                time 2147483647 ! IndexOutOfBoundsException
                """);
    }

    private static void bestPlace() {
        String sentence = "Returns the free place, or its own one, with which time(start) would be smallest if the order stood there,"
                + " among several the smallest number; NONE if there is no such place.";
        Sentences.holds(23, sentence, """
                program D12 o01----00 o01----00
                bestPlace 0 0 = 0
                turn 11
                bestPlace 0 0 = 11
                turn 1
                bestPlace 0 0 = 0
                move 0 0
                bestPlace 0 0 = 0           # its own one
                bestPlace 1 1 = 1           # 0 is not free
                bestPlace 1 0 = 1           # it makes no difference: the smallest number
                bestPlace 0 1 = 0
                turn 11
                bestPlace 1 1 = 11
                bestPlace 0 0 = 11
                """);
        Sentences.holds(23, sentence, """
                program D12 o0101--00 o01----00
                move 0 0
                bestPlace 1 0 = 2
                change 0 1 9
                bestPlace 1 0 = 10
                change 0 1 8
                move 1 9
                bestPlace 1 0 = 9
                bestPlace 0 0 = 0
                change 1 3 1
                bestPlace 1 0 = 1           # forged wherever it stands
                """);
        Sentences.holds(23, sentence, """
                program D06 7*o01----10
                bestPlace 6 0 = 0
                lay
                bestPlace 6 6 = -1          # no place is free
                bestPlace 6 0 = -1
                bestPlace 5 5 = 5           # none but its own one
                bestPlace 0 0 = 0
                setDrum 7
                lay
                bestPlace 6 6 = 6
                """);
        Sentences.holds(23, sentence, """
                program D06 6*o01----10
                move 0 0
                move 1 1
                move 2 2
                move 3 3
                move 4 4
                bestPlace 5 5 = 5           # the last one is the only free one
                bestPlace 5 0 = 5
                bestPlace 0 0 = 0
                turn 5
                bestPlace 0 0 = 5
                bestPlace 4 4 = 5
                """);
    }

    private static void bestPlaceRefused() {
        Sentences.holds(23, "`o`: order", """
                program D40 16*o01----00
                lay
                bestPlace 15 15 = 15
                bestPlace 15 0 = 15
                bestPlace 16 0 ! IndexOutOfBoundsException
                """);
        Sentences.holds(23, "`start`: order with which a run begins", """
                program D40 16*o01----00
                lay
                bestPlace 0 15 = 0
                bestPlace 0 16 ! IndexOutOfBoundsException
                """);
        Sentences.holds(23, "Throws `IndexOutOfBoundsException` if there is no such order", """
                bestPlace 0 0 ! IndexOutOfBoundsException
                addOrder 0 1 -1 -1 0
                bestPlace 0 0 = 0
                bestPlace 1 0 ! IndexOutOfBoundsException
                bestPlace 0 1 ! IndexOutOfBoundsException
                bestPlace -1 0 ! IndexOutOfBoundsException
                bestPlace 0 -1 ! IndexOutOfBoundsException
                bestPlace -2147483648 0 ! IndexOutOfBoundsException
                bestPlace 0 -2147483648 ! IndexOutOfBoundsException
                bestPlace 2147483647 0 ! IndexOutOfBoundsException
                bestPlace 0 2147483647 ! IndexOutOfBoundsException
                """);
    }

    private static void leastBribe() {
        String sentence = "Returns the smallest bribe, 0 to 99, with which lay() would give this order a place with the delay 0; NONE if"
                + " there is none.";
        Sentences.holds(24, sentence, """
                program D12 o01----98 o01----00
                leastBribe 0 = 0            # with the same bribe the lowest one is first
                leastBribe 1 = 99
                change 0 4 99
                leastBribe 1 = -1           # it would have to be 100
                change 0 4 0
                leastBribe 1 = 1
                change 1 4 99
                leastBribe 1 = 1
                leastBribe 0 = 99
                """);
        Sentences.holds(24, sentence, """
                program D12 o0101--99 o01----50
                leastBribe 1 = 0            # behind 0, the delay is 0 there too
                leastBribe 0 = 0
                change 0 2 -1
                leastBribe 0 = 50
                """);
        Sentences.holds(24, sentence, """
                program D06 6*o01----10 o01----00
                leastBribe 6 = 11           # without a place there is no delay
                leastBribe 0 = 10
                leastBribe 5 = 11
                leastBribe 1 = 11
                """);
        Sentences.holds(24, sentence, """
                program D06 6*o01----99 o01----00
                leastBribe 6 = -1
                leastBribe 0 = 99
                """);
    }

    private static void leastBribeRefused() {
        Sentences.holds(24, "`o`: order", """
                program D40 16*o01----00
                leastBribe 0 = 0
                leastBribe 15 = 1
                leastBribe 16 ! IndexOutOfBoundsException
                """);
        Sentences.holds(24, "Throws `IndexOutOfBoundsException` if there is no such order", """
                leastBribe 0 ! IndexOutOfBoundsException
                addOrder 0 1 -1 -1 0
                leastBribe 0 = 0
                leastBribe 1 ! IndexOutOfBoundsException
                leastBribe -1 ! IndexOutOfBoundsException
                leastBribe -2147483648 ! IndexOutOfBoundsException
                leastBribe 2147483647 ! IndexOutOfBoundsException
                """);
    }

    private static void saves() {
        String sentence = "Returns by how many ticks a run from this order, begun in the tick of now, would be shorter if the orders were"
                + " laid just before (less than 0 if longer).";
        Sentences.holds(25, sentence, """
                program D12 o01----50
                saves 0 = -2                # it is missing without
                lay
                saves 0 = 0
                move 0 11
                saves 0 = 11
                move 0 1
                saves 0 = 1
                turn 1
                saves 0 = -11
                move 0 0
                saves 0 = 0
                """);
        Sentences.holds(25, "`start`: order", """
                program D40 16*o01----00
                saves 0 = -2
                saves 15 = -17
                saves 16 ! IndexOutOfBoundsException
                """);
        Sentences.holds(25, "Throws `IndexOutOfBoundsException` if there is no such order", """
                saves 0 ! IndexOutOfBoundsException
                addOrder 0 1 -1 -1 0
                saves 0 = -2
                saves 1 ! IndexOutOfBoundsException
                saves -1 ! IndexOutOfBoundsException
                saves -2147483648 ! IndexOutOfBoundsException
                saves 2147483647 ! IndexOutOfBoundsException
                """);
    }
}
