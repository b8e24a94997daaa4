/** The terms: laying. */
final class EdgesOfLaying {
    private EdgesOfLaying() {
    }

    static void hold() {
        takesAllOff();
        greatestBribeFirst();
        behindTheOneBefore();
        aheadOfItsNext();
        otherwiseAtZero();
        firstFreePlace();
        noFreePlace();
        pays();
        refunds();
    }

    private static void takesAllOff() {
        String sentence = "When orders are laid, all of them are taken off the drum first.";
        Sentences.holds(Sentences.TERMS, sentence, """
                program D12 o01----10
                move 0 3 = 0
                lay = 0
                order 0 5 = 0
                at 3 = -1
                """);
        Sentences.holds(Sentences.TERMS, sentence, """
                program D12 o0101--10 o01----50
                move 0 5 = 0
                lay = 0
                order 1 5 = 0               # not 7: the order 0 stands at 5 no more
                order 0 5 = 10
                """);
        Sentences.holds(Sentences.TERMS, sentence, """
                program D12 o0101--50 o01----10
                move 1 5 = 0
                lay = 0
                order 0 5 = 0               # not 3: the order 1 stands at 5 no more
                order 1 5 = 2
                """);
        Sentences.holds(Sentences.TERMS, sentence, """
                program D06 6*o01----10
                lay = 15
                lay = 15
                order 0 5 = 0
                order 5 5 = 5
                """);
    }

    private static void greatestBribeFirst() {
        String sentence = "Then they get places one by one, those with greater bribes first, of several with the same bribe the"
                + " lowest one first.";
        Sentences.holds(Sentences.TERMS, sentence, """
                program D12 o01----49 o01----50 o01----49
                lay = 3
                order 1 5 = 0
                order 0 5 = 1
                order 2 5 = 2
                """);
        Sentences.holds(Sentences.TERMS, sentence, """
                program D12 o01----00 o01----01 o01----99 o01----98
                lay = 6
                order 2 5 = 0
                order 3 5 = 1
                order 1 5 = 2
                order 0 5 = 3
                """);
        Sentences.holds(Sentences.TERMS, sentence, """
                program D40 15*o01----00 o01----99
                lay = 120
                order 15 5 = 0
                order 0 5 = 1
                order 1 5 = 2
                order 14 5 = 15
                """);
    }

    private static void behindTheOneBefore() {
        String sentence = "if orders that have places by now have o as their next one: (the place of that one of these with the"
                + " lowest number + 1 + the work of that one)";
        Sentences.holds(Sentences.TERMS, sentence, """
                program D12 o0902--20 o0502--30 o01----10
                lay = 1
                order 1 5 = 0
                order 0 5 = 1
                order 2 5 = 11              # 1 + 1 + 9, behind 0; not 6, behind 1
                order 2 6 = 0
                """);
        Sentences.holds(Sentences.TERMS, sentence, """
                program D12 o0902--05 o0502--30 o01----10
                lay = 0
                order 2 5 = 6               # behind 1: 0 has no place by now
                order 0 5 = 8
                """);
        Sentences.holds(Sentences.TERMS, sentence, """
                program D12 o0202--40 o01----50 o0101--30
                lay = 1
                order 0 5 = 1
                order 2 5 = 4               # not ahead of its own next one at 0
                """);
        Sentences.holds(Sentences.TERMS, sentence, """
                program D12 15*o01----00 o0100--99
                lay = 64                    # 0 at 2, behind 15; 1 at 1; 2 to 10 at 3 to 11; 11 to 14 get none
                order 0 5 = 2
                order 1 5 = 1
                order 2 5 = 3
                """);
        String around = "always taken as the remainder by the number of places (0 or more)";
        Sentences.holds(Sentences.TERMS, around, """
                program D11 o0901--50 o01----30
                lay = 0
                order 1 5 = 10
                """);
        Sentences.holds(Sentences.TERMS, around, """
                program D10 o0901--50 o01----30
                lay = 1
                order 1 5 = 1
                order 1 6 = 1               # it wants 10, which is 0, where 0 stands
                """);
        Sentences.holds(Sentences.TERMS, around, """
                program D09 o0901--50 o01----30
                lay = 0
                order 1 5 = 1
                order 1 6 = 0
                """);
    }

    private static void aheadOfItsNext() {
        String sentence = "otherwise, if its own next one has a place by now: (that place - 1 - the work of o)";
        Sentences.holds(Sentences.TERMS, sentence, """
                program D12 o0301--10 o01----50 o0401--99
                lay = 0
                order 1 5 = 5
                order 0 5 = 1
                change 0 1 4 = 3
                lay = 1
                order 0 5 = 1
                order 0 6 = 1               # it wants 0, where 2 stands
                change 0 1 5 = 4
                lay = 0
                order 0 5 = 11              # it wants -1
                order 0 6 = 0
                """);
        Sentences.holds(Sentences.TERMS, sentence, """
                program D40 o0115--10 14*o01----50 o01----99
                lay = 105
                order 15 5 = 0
                order 0 5 = 38
                order 1 5 = 1
                order 14 5 = 14
                """);
        String around = "always taken as the remainder by the number of places (0 or more)";
        Sentences.holds(Sentences.TERMS, around, """
                program D11 o0901--10 o01----50
                lay = 0
                order 0 5 = 1               # -10
                """);
        Sentences.holds(Sentences.TERMS, around, """
                program D10 o0901--10 o01----50
                lay = 1
                order 0 5 = 1
                order 0 6 = 1               # -10, which is 0, where 1 stands
                """);
        Sentences.holds(Sentences.TERMS, around, """
                program D06 o0901--10 o01----50
                lay = 0
                order 0 5 = 2               # -10 is 2, further than one round
                """);
        Sentences.holds(Sentences.TERMS, around, """
                program D40 o0101--10 o01----50
                lay = 0
                order 0 5 = 38
                """);
    }

    private static void otherwiseAtZero() {
        String sentence = "- otherwise 0;";
        Sentences.holds(Sentences.TERMS, sentence, """
                program D12 o09----00
                lay = 0
                order 0 5 = 0
                order 0 6 = 0
                """);
        Sentences.holds(Sentences.TERMS, sentence, """
                program D12 o01----50 o0501--40
                lay = 1                     # an order is not ahead of itself
                order 1 5 = 1
                """);
        Sentences.holds(Sentences.TERMS, sentence, """
                program D12 o0502--50 o0515--40
                lay = 1                     # there is no order 2 and no order 15
                order 0 5 = 0
                order 1 5 = 1
                addOrder 0 1 -1 -1 0 = 2
                lay = 1
                order 2 5 = 6
                """);
        Sentences.holds(Sentences.TERMS, sentence, """
                program D12 o01----50 o05--0040
                lay = 1                     # what it expects does not matter
                order 1 5 = 1
                """);
    }

    private static void firstFreePlace() {
        String sentence = "The order gets the first free place from its wanted place on, going around upwards; its delay is how"
                + " many places further this is.";
        Sentences.holds(Sentences.TERMS, sentence, """
                program D06 o01----99 o0600--50 o0600--40 o0600--30
                lay = 5
                order 0 5 = 0
                order 1 5 = 5               # each one wants -7, which is 5
                order 1 6 = 0
                order 2 5 = 1
                order 2 6 = 2
                order 3 5 = 2
                order 3 6 = 3
                """);
        Sentences.holds(Sentences.TERMS, sentence, """
                program D06 o01----99 5*o0600--50
                lay = 14
                order 1 5 = 5
                order 5 5 = 4               # the place ahead of the wanted one is the last one to be asked
                order 5 6 = 5
                """);
    }

    private static void noFreePlace() {
        String sentence = "Orders for which there is no free place get none.";
        Sentences.holds(Sentences.TERMS, sentence, """
                program D06 6*o11----10 o21----10
                lay = 15
                order 5 5 = 5
                order 5 6 = 5
                order 6 5 = -1
                order 6 6 = -1
                about 4 = 6
                """);
        Sentences.holds(Sentences.TERMS, sentence, """
                program D16 16*o01----01
                lay = 120
                about 4 = 16
                order 15 5 = 15
                setDrum 15
                lay = 105
                about 4 = 15
                order 14 5 = 14
                order 15 5 = -1
                """);
    }

    private static void pays() {
        Sentences.holds(Sentences.TERMS, "The author of each order that got a place pays its bribe, which is open then.", """
                program D06 4*o11----99 o21----01 o31----00 o01----00
                lay = 15
                author 1 1 = 396
                author 2 1 = 1
                author 3 1 = 0
                author 0 1 = 0
                order 0 7 = 99
                order 4 7 = 1
                order 5 7 = 0
                order 6 7 = 0
                about 5 = 397
                about 7 = 397
                change 6 4 50 = 0           # now 6 has a place, and 5 has none
                lay = 15
                author 0 1 = 50
                author 3 1 = 0
                order 6 7 = 50
                """);
        Sentences.holds(Sentences.TERMS, "The author of each order that got a place pays its bribe, which is open then.", """
                program D06 6*o11----10 o21----09
                lay = 15
                author 1 1 = 60
                author 2 1 = 0              # no place, nothing paid
                order 6 7 = 0
                """);
    }

    private static void refunds() {
        String sentence = "An open bribe is refunded to its author when orders are laid again (before they pay), when the order"
                + " is moved, and when setDrum() is called.";
        Sentences.holds(Sentences.TERMS, sentence, """
                program D06 6*o11----10 o21----09
                lay = 15
                change 6 4 11 = 9
                lay = 15
                order 6 5 = 0
                order 5 5 = -1
                order 5 6 = -1
                order 5 7 = 0               # refunded, and not paid again
                author 1 1 = 110
                author 1 2 = 60
                author 2 1 = 11
                author 2 2 = 0
                about 5 = 121
                about 6 = 60
                about 7 = 61
                """);
        Sentences.holds(Sentences.TERMS, sentence, """
                program D12 o11----10 o21----09
                lay = 1
                move 0 5 = 10
                author 1 2 = 10
                author 2 2 = 0
                order 0 7 = 0
                order 1 7 = 9
                move 0 6 = 0
                author 1 2 = 10
                """);
        Sentences.holds(Sentences.TERMS, sentence, """
                program D12 o11----10 o21----01
                lay = 1
                setDrum 12 = 12
                author 1 2 = 10
                author 2 2 = 1
                order 0 7 = 0
                order 1 7 = 0
                setDrum 12 = 12
                about 6 = 11
                """);
        Sentences.holds(Sentences.TERMS, sentence, """
                program D12 o11----10
                lay
                change 0 4 99 = 10          # what was paid is what is refunded
                lay
                author 1 1 = 109
                author 1 2 = 10
                """);
    }
}
