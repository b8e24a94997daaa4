/** The terms for the text, and the promises 2 to 5. */
final class EdgesOfText {
    private static final String DIGITS = "0123456789";
    private static final String ORDER = "o01----00";

    private EdgesOfText() {
    }

    static void hold() {
        appends();
        clears();
        findsErrors();
        allowsJustTheseSigns();
        endsTooSoon();
        loads();
    }

    private static void appends() {
        Sentences.holds(Sentences.TERMS, "The object has a text buffer of at most 160 characters.", """
                159 times append 68 = 159
                append 0 = 160
                append 68 ! IllegalStateException
                append 255 ! IllegalStateException
                errorPosition = 1
                """);
        Sentences.holds(2, "`c`: character code, 0 to 255", """
                append 0 = 1
                append 255 = 2
                append 128 = 3
                append -1 ! IllegalArgumentException
                append 256 ! IllegalArgumentException
                """);
        Sentences.holds(2, "Returns the new length of the text.", """
                append 68 = 1
                append 68 = 2
                157 times append 68 = 159
                append 68 = 160
                """);
        Sentences.holds(2, "Throws `IllegalArgumentException` if c is out of range", """
                text D12
                append -1 ! IllegalArgumentException
                append 256 ! IllegalArgumentException
                append 324 ! IllegalArgumentException
                append -2147483648 ! IllegalArgumentException
                append 2147483647 ! IllegalArgumentException
                errorPosition = -1
                append 111 = 4
                """);
        Sentences.holds(2, "Throws `IllegalStateException` if the text already has 160 characters", """
                program D12 16*o01----00
                13 times append 32 = 160
                append 32 ! IllegalStateException
                append 0 ! IllegalStateException
                append 256 ! IllegalArgumentException
                errorPosition = 147
                clearText = 160
                append 32 = 1
                """);
    }

    private static void clears() {
        Sentences.holds(3, "Returns the previous length of the text.", """
                clearText = 0
                append 68 = 1
                clearText = 1
                clearText = 0
                160 times append 68 = 160
                clearText = 160
                160 times append 68 = 160
                clearText = 160
                """);
        Sentences.holds(3, "Empties the text buffer.", """
                text D12
                errorPosition = -1
                clearText = 3
                errorPosition = 0
                load ! IllegalStateException
                text D06
                errorPosition = -1
                load = 0
                about 0 = 6
                clearText = 3
                about 0 = 6
                """);
    }

    private static void findsErrors() {
        Sentences.holds(4, "Returns the error position of the text; NONE if it is a program.", """
                errorPosition = 0
                text D
                errorPosition = 1
                text 1
                errorPosition = 2
                text 2
                errorPosition = -1
                text o01----0
                errorPosition = 11
                text 0
                errorPosition = -1
                text x
                errorPosition = 12
                """);
        Sentences.holds(4, "Checks the text.", """
                text D12xo
                errorPosition = 3           # the first one, not the last one
                """);
        Sentences.holds(Sentences.TERMS, "There are no blanks.", """
                append 32
                text D12
                errorPosition = 0
                """);
        Sentences.holds(Sentences.TERMS, "There are no blanks.", """
                text D12
                append 32
                errorPosition = 3
                """);
        Sentences.holds(Sentences.TERMS, "and then up to 16 orders", """
                text D12 15*o01----00
                errorPosition = -1
                text o01----00
                errorPosition = -1
                text o
                errorPosition = 147
                text 01----00
                errorPosition = 147
                """);
        Sentences.holds(Sentences.TERMS, "(a digit is not allowed if no number that is allowed begins with it and those before it)", """
                text D5
                errorPosition = 1
                clearText
                text D05
                errorPosition = 2
                clearText
                text D06
                errorPosition = -1
                clearText
                text D40
                errorPosition = -1
                clearText
                text D41
                errorPosition = 2
                clearText
                text D12o012
                errorPosition = 6
                clearText
                text D12o0115
                errorPosition = 8
                clearText
                text D12o0116
                errorPosition = 7
                clearText
                text D12o01--16
                errorPosition = 9
                clearText
                text D12o40
                errorPosition = 4
                clearText
                text D12o00
                errorPosition = 5
                """);
    }

    /** Behind each beginning, each of the 256 signs: these are allowed, and no others. */
    private static void allowsJustTheseSigns() {
        allows("", "D");
        allows("D", "01234");
        allows("D0", "6789");
        allows("D1", DIGITS);
        allows("D2", DIGITS);
        allows("D3", DIGITS);
        allows("D4", "0");
        for (String head : new String[] {"D06", "D12", "D40", "D12" + ORDER, "D12" + ORDER.repeat(15)}) {
            allows(head, "o");
            allows(head + "o", "0123");
            allows(head + "o0", "123456789");
            allows(head + "o3", "123456789");
            for (String link : new String[] {head + "o01", head + "o39", head + "o01--", head + "o0115"}) {
                allows(link, "01-");
                allows(link + "0", DIGITS);
                allows(link + "1", "012345");
                allows(link + "-", "-");
            }
            for (String links : new String[] {"----", "0000", "1515", "--07"}) {
                allows(head + "o01" + links, DIGITS);
                allows(head + "o01" + links + "0", DIGITS);
                allows(head + "o01" + links + "9", DIGITS);
            }
        }
        allows("D12" + ORDER.repeat(16), "");
        allows("D12" + ORDER.repeat(16) + "o", "", 147);
    }

    private static void allows(String beginning, String signs) {
        allows(beginning, signs, beginning.length());
    }

    private static void allows(String beginning, String signs, int error) {
        for (int c = 0; c < 256; c++) {
            Drum x = new Drum();
            x.write(beginning);
            x.append(c);
            boolean allowed = signs.indexOf(c) >= 0;
            int length = beginning.length() + 1;
            int due = !allowed ? error : length % 9 == 3 ? -1 : length;
            Check.is("errorPosition behind " + beginning + " and the sign " + c, due, x.errorPosition());
        }
    }

    /** Every beginning of a program that is none itself has its error where it ends. */
    private static void endsTooSoon() {
        String program = "D40o39150099o01--1500" + ORDER.repeat(14);
        Drum x = new Drum();
        for (int length = 0; length <= program.length(); length++) {
            int due = length >= 3 && length % 9 == 3 ? -1 : length;
            Check.is("errorPosition of the first " + length + " signs", due, x.errorPosition());
            if (length < program.length()) {
                x.append(program.charAt(length));
            }
        }
        Sentences.holds(Sentences.TERMS, "if the text ends too soon, it is the length of the text.", """
                errorPosition = 0
                text D1
                errorPosition = 2
                text 2o
                errorPosition = 4
                """);
    }

    private static void loads() {
        Sentences.holds(5, "Replaces everything by the program of the text, in the tick 0, with no order on the drum, no bribe paid"
                + " and no jump made.", """
                program D40 o39150099 o01--1500
                lay
                run 0
                turn 1
                addOrder 0 1 0 0 0
                change 0 4 5
                load = 2
                about 0 = 40
                about 1 = 2
                about 2 = 0
                about 4 = 0
                about 5 = 0
                about 6 = 0
                about 7 = 0
                about 8 = 0
                about 9 = -1
                order 0 0 = 3
                order 0 1 = 9
                order 0 2 = 15
                order 0 3 = 0
                order 0 4 = 99
                order 0 5 = -1
                order 0 6 = -1
                order 0 7 = 0
                order 0 8 = -1
                order 1 0 = 0
                order 1 1 = 1
                order 1 2 = -1
                order 1 3 = 15
                order 1 4 = 0
                author 3 1 = 0
                author 3 2 = 0
                jump 0 0 = -1
                """);
        Sentences.holds(5, "Replaces everything by the program of the text, in the tick 0, with no order on the drum, no bribe paid"
                + " and no jump made.", """
                program D12 8*o01----30 8*o31----40
                lay
                setDrum 40
                lay
                about 7 = 560
                clearText
                text D06
                load = 0
                about 5 = 0
                about 6 = 0
                about 7 = 0
                author 0 1 = 0
                author 0 2 = 0
                author 3 1 = 0
                author 3 2 = 0
                order 0 0 ! IndexOutOfBoundsException
                addOrder 0 1 -1 -1 0 = 0
                order 0 7 = 0
                order 0 8 = -1
                """);
        Sentences.holds(5, "Replaces everything by the program of the text, in the tick 0, with no order on the drum, no bribe paid"
                + " and no jump made.", """
                program D12 16*o01000099
                lay
                run 0
                clearText
                text D12 o0101--30 o01----20
                load = 2
                lay = 0                     # nothing is left of the orders 2 to 15
                order 0 5 = 0
                order 1 5 = 2
                about 4 = 2
                at 1 = -1
                about 5 = 50
                author 0 0 = 2
                change 1 2 2
                chain 0 = 2
                ring 0 = 0
                run 0 = 3
                runScript 1 10200 = 0
                lay = 0
                about 7 = 50
                """);
        Sentences.holds(5, "Forgets all remembered states and empties both save slots.", """
                program D12
                turn 1
                save 0
                save 1
                load = 0
                undo ! IllegalStateException
                restore 0 ! IllegalStateException
                restore 1 ! IllegalStateException
                14 times turn 1
                load = 0
                turn 1
                undo = 0
                undo ! IllegalStateException
                """);
        Sentences.holds(5, "Keeps the text.", """
                program D12
                load = 0
                errorPosition = -1
                clearText = 3
                load ! IllegalStateException
                """);
        Sentences.holds(5, "Returns the number of orders.", """
                text D06
                load = 0
                text o01----00
                load = 1
                text 14*o01----00
                load = 15
                text o01----00
                load = 16
                about 1 = 16
                order 15 1 = 1
                """);
        Sentences.holds(5, "Throws `IllegalStateException` if the text is not a program", """
                turn 1
                save 0
                load ! IllegalStateException
                text D1
                load ! IllegalStateException
                text 2
                load = 0
                turn 1
                save 1
                text o01----0
                load ! IllegalStateException
                text 00
                load ! IllegalStateException
                undo = 0
                restore 1 = 0
                about 2 = 1
                """);
    }
}
