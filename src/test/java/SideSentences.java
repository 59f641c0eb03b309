/** The sentences of the promises 12 to 20: sides and pressings. */
final class SideSentences extends Sentences {
    /** The stamper 1 1 of the side 0 and the stamper 0 0 of the side 1, and 20 discs of each. */
    private static final String TWO_SIDES = SIDE + "add 0; cut 1; stamper 0 0 0; stamper 0 1 0; stamper 0 1 1; "
            + "stamper 1 0 0; press 0 1 1 20; press 1 0 0 20; ";
    private static final String NO_STAMPER = "Throws `IndexOutOfBoundsException` if there is no such SIDE; or mother "
            + "or number is out of range";
    /** 99 sales of 2 discs, of two stampers, one of which came back. */
    private static final String SALES_99 = PRESSED + "stamper 0 0 1; press 0 0 1 500; contract 0 1000 7; "
            + "contract 1 400 0; sell 0 0 0 2 *49; sell 0 0 1 2 *50; back 0 0 1 2; ";

    static void run() {
        addAndClear();
        cut();
        cutThrows();
        seconds();
        stamper();
        press();
        pressThrows();
        stamperIs();
        sell();
        sellThrows();
        back();
        backThrows();
    }

    /** Each place of a stamper's name, just inside and outside, in a call of which the rest is told. */
    private static void stamperNames(String call, String rest, String answer) {
        cite(NO_STAMPER);
        String all = SIDE + "add 0; cut 1; " + stampersOf(0) + stampersOf(1) + pressedOf("0 0 0") + pressedOf("1 0 0")
                + pressedOf("0 2 0") + pressedOf("0 0 3");
        range(all, call + " # 0 0" + rest, 0, answer, 1, answer, "B");
        range(all, call + " 0 # 0" + rest, 0, answer, 2, answer, "B");
        range(all, call + " 0 0 #" + rest, 0, answer, 3, answer, "B");
        each(TWO_SIDES, "B", call + " 2 0 0" + rest, call + " 10 0 0" + rest, call + " 0 1 4" + rest,
                call + " 0 1 -1" + rest, call + " 0 3 -1" + rest, call + " 0 -1 4" + rest);
        each("", "B", call + " 0 0 0" + rest);
    }

    private static String pressedOf(String stamper) {
        return "press " + stamper + " 50; sell " + stamper + " 9; ";
    }

    private static void addAndClear() {
        promise(12);
        cite("Puts a TAPE at the end of the program.");
        row("session 0 10 0; session 1 20 0; add 1; add 0; cut 1; seconds 0 0 = 10; seconds 0 1 = 20; add 0; cut 1; "
                + "seconds 1 NONE = 10");
        cite("Returns how many TAPES it has.");
        row("session 0 10 0; session 1 20 0; add 1 = 1; add 0 = 2; add 1 = 3; add 1 = 4; add 0 = 5; add 0 = 6; "
                + "clear = 6; add 0 = 1; cut 1; add 0 = 1");
        cite("Throws `IndexOutOfBoundsException` if there is no such TAPE");
        range("session 0 1 0; session 0 1 0; ", "add #", 0, "1", 1, "1", "B");
        range("session 0 1 0 *30; ", "add #", 0, "1", 29, "1", "B");
        each("session 0 1 0; add 0 *6; ", "B", "add 1", "add -1");
        cite("Throws `IllegalStateException` if it is not PLAYABLE, or the program has 6");
        row("session 0 1 0; session 0 1 1; shed 0; add 0 = S; add 1 = 1; bake 0; add 0 = 2; pass 29; add 0 = 3; pass 1; "
                + "add 0 = S; add 1 = 4; fire 1; add 1 = S; clear = 4");
        row("session 0 1 0; add 0 *5; add 0 = 6; add 0 = S; add 0 = S; clear = 6; add 0 *6; add 0 = S; cut 1; add 0 = 1");
        row("session 0 10 0; session 1 20 0; add 0 *6; add 1 = S; cut 5; seconds 0 0 = 60; seconds 0 1 = 0");
        promise(13);
        cite("Empties the program; returns how many TAPES it had.");
        row("clear = 0; session 0 10 0; session 1 20 0; add 0; clear = 1; clear = 0; cut 1 = S; add 1 *6; clear = 6; "
                + "clear = 0; add 1 = 1; cut 1; seconds 0 0 = 0; seconds 0 1 = 20; clear = 0");
        row("session 0 10 0; add 0; shed 0; clear = 1; clear = 0");
        row("session 0 10 0; add 0; fire 0; clear = 1; clear = 0");
    }

    private static void cut() {
        promise(14);
        cite("Cuts a SIDE of the program, which is empty then.");
        row("session 0 10 0; session 1 20 0; add 0; add 1; add 0; cut 3; clear = 0; seconds 0 NONE = 40; "
                + "seconds 0 0 = 20; seconds 0 1 = 20; seconds 1 0 = B; cut 3 = S");
        cite("`level`: 1 to 5");
        range("session 0 750 0; add 0; ", "cut #", 1, "0", 5, "0", "A");
        cite("Returns the number of the SIDE.");
        row("session 0 10 0; session 0 20 0; add 0; cut 1 = 0; add 1; cut 5 = 1; add 0; add 1; cut 2 = 2; "
                + "seconds 0 0 = 10; seconds 1 0 = 20; seconds 2 0 = 30");
        cite("Throws `IllegalArgumentException` if level is out of range");
        each("", "A", "cut 0", "cut 6", "cut -1", "cut MAX", "cut MIN");
        each("session 0 900 0; add 0 *6; ", "A", "cut 0", "cut 6");
        each("session 0 10 0; add 0; shed 0; ", "A", "cut 0", "cut 6");
        each("session 0 10 0; " + "add 0; cut 1; ".repeat(10) + "add 0; ", "A", "cut 0", "cut 6");
        row("session 0 10 0; add 0; cut 0 = A; cut 6 = A; clear = 1");
    }

    private static void cutThrows() {
        cite("Throws `IllegalStateException` if the program is empty,");
        each("", "S", "cut 1", "cut 5");
        each("session 0 10 0; add 0; clear; ", "S", "cut 1");
        each("session 0 10 0; add 0; cut 1; ", "S", "cut 1");
        cite("one of its TAPES is not PLAYABLE,");
        for (int at = 0; at < 6; at++) {
            String program = "session 0 10 0; session 0 10 1; " + "add 0; ".repeat(at) + "add 1; "
                    + "add 0; ".repeat(5 - at);
            row(program + "shed 1; cut 1 = S; bake 1; pass 30; cut 1 = S; clear = 6");
            row(program + "shed 1; bake 1; pass 29; cut 1 = 0");
            row(program + "fire 1; cut 1 = S; clear = 6");
        }
        cite("it is too long,");
        int[] longest = {1350, 1200, 1050, 900, 750};
        for (int level = 1; level <= 5; level++) {
            int rest = longest[level - 1] - 603;
            row("session 0 600 0; session 1 " + rest + " 0; session 2 " + (rest + 1) + " 0; add 0; add 1; cut " + level
                    + " = 0; add 0; add 2; cut " + level + " = S; clear = 2; add 2; add 0; cut " + level
                    + " = S; clear = 2; seconds 0 NONE = " + (rest + 600) + "; seconds 1 NONE = B");
        }
        row("session 0 900 0; add 0; cut 5 = S; cut 4 = 0; add 0; add 0; cut 1 = S; clear = 2");
        row("session 0 750 0; session 0 751 0; add 0; cut 5 = 0; add 1; cut 5 = S; cut 4 = 1");
        row("session 0 900 0; session 0 450 0; splice 0 0 900 1 0; splice 0 0 900 0 0; splice 3 0 1351 NONE 0; add 2; "
                + "cut 1 = 0; add 4; cut 1 = S; clear = 1");
        row("session 0 900 0; splice 0 0 900 0 0; splice 1 0 1800 1 0; splice 2 0 3600 2 0; splice 3 0 7200 3 0; "
                + "add 4 *6; cut 1 = S; clear = 6");
        cite("or there are 10 SIDES");
        row("session 0 10 0; " + "add 0; cut 1; ".repeat(9) + "add 0; cut 1 = 9; add 0; cut 1 = S; cut 5 = S; "
                + "clear = 1; seconds 9 0 = 10; seconds 10 0 = B; stamper 9 0 0 = 1; stamper 10 0 0 = B");
    }

    private static void seconds() {
        promise(15);
        cite("Returns the seconds of SPANS of TAKES of an ARTIST on a SIDE.");
        row("session 0 30 0; session 5 20 0; session 0 7 0; splice 0 10 15 1 0; splice 3 4 6 NONE 0; add 3; add 2; "
                + "add 4; add 3; cut 2; seconds 0 0 = 18; seconds 0 5 = 41; seconds 0 1 = 0; seconds 0 4 = 0; fire 0; "
                + "seconds 0 0 = 18; seconds 0 5 = 41; session 0 1 0; seconds 0 0 = 18");
        row("session 0 1 0; session 1 2 0; session 2 3 0; session 3 4 0; session 4 5 0; session 5 6 0; add 0; add 1; "
                + "add 2; add 3; add 4; add 5; cut 5; seconds 0 0 = 1; seconds 0 1 = 2; seconds 0 2 = 3; "
                + "seconds 0 3 = 4; seconds 0 4 = 5; seconds 0 5 = 6; seconds 0 NONE = 21");
        cite("`artist`: NONE for all");
        row("session 0 30 0; session 5 20 0; add 0; add 1; add 0; cut 1; seconds 0 NONE = 80; add 1; cut 1; "
                + "seconds 1 NONE = 20");
        cite("Throws `IndexOutOfBoundsException` if there is no such SIDE or ARTIST");
        range(SIDE, "seconds 0 #", -1, "400", 5, "0", "B");
        range(SIDE + "add 0; cut 1; ", "seconds # 0", 0, "300", 1, "300", "B");
        range("session 0 10 0; " + "add 0; cut 1; ".repeat(10), "seconds # NONE", 0, "10", 9, "10", "B");
        each(SIDE, "B", "seconds 1 NONE", "seconds NONE NONE", "seconds 1 6", "seconds -1 -2");
    }

    private static void stamper() {
        String two = SIDE + "add 0; cut 1; ";
        promise(16);
        cite("Makes a STAMPER.");
        row(SIDE + "pass 8; stamper 0 0 0; stamperIs 0 0 0 0 = 8; stamperIs 0 0 0 1 = 0; stamperIs 0 0 0 2 = 0; "
                + "stamperIs 0 0 0 3 = NONE; stamperIs 0 0 0 4 = NONE; stamperIs 0 0 1 0 = NONE; "
                + "stamperIs 0 1 0 0 = NONE; fire 0; stamper 0 0 1 = 2");
        cite("`mother`: 0 to 2");
        range(two + "stamper 0 0 0; stamper 0 1 0; stamper 0 1 1; stamper 0 0 1; stamper 0 2 0; stamper 0 2 1; ",
                "stamper 0 # 2", 0, "7", 2, "7", "B");
        cite("`number`: 0 to 3");
        row(two + "stamper 0 0 -1 = B; stamper 0 0 0 = 1; stamper 0 0 1 = 2; stamper 0 0 2 = 3; stamper 0 0 3 = 4; "
                + "stamper 0 0 4 = B; stamper 0 0 MAX = B; stamper 0 0 MIN = B; stamper 0 1 -1 = B; stamper 0 1 0 = 5; "
                + "stamper 0 1 4 = B");
        cite("Returns how many STAMPERS of the SIDE are made.");
        row(two + "stamper 0 0 0 = 1; stamper 0 1 0 = 2; stamper 1 0 0 = 1; stamper 0 0 1 = 3; stamper 1 0 1 = 2; "
                + "stamper 1 0 2 = 3; stamper 0 2 0 = 4");
        row(two + stampersOf(1) + "stamper 1 2 3 = S; stamper 0 0 0 = 1");
        cite(NO_STAMPER);
        range(two, "stamper # 0 0", 0, "1", 1, "1", "B");
        each(two, "B", "stamper 0 3 0", "stamper 0 -1 0", "stamper 0 -1 1", "stamper 0 0 4", "stamper 0 0 -1",
                "stamper 0 1 -1", "stamper 0 1 4", "stamper 0 MAX 0", "stamper 0 MIN 0", "stamper 0 0 MAX",
                "stamper 0 0 MIN", "stamper 2 0 0", "stamper 10 0 0", "stamper 2 3 4");
        each(two + stampersOf(0) + stampersOf(1), "B", "stamper 2 0 0", "stamper -1 0 0", "stamper 0 3 0",
                "stamper 0 -1 0", "stamper 1 0 4", "stamper 1 1 -1");
        cite("Throws `IllegalStateException` if it is made, or what it needs is not");
        row(two + "stamper 0 0 0; stamper 0 0 0 = S; press 0 0 0 500; sell 0 0 0 500; stamper 0 0 0 = S; pass 9; "
                + "stamper 0 0 0 = S; stamperIs 0 0 0 0 = 0");
        row(two + "stamper 0 0 1 = S; stamper 0 0 2 = S; stamper 0 0 3 = S; stamper 0 1 0 = S; stamper 0 1 1 = S; "
                + "stamper 0 2 0 = S; stamper 0 2 3 = S; stamper 0 0 0; stamper 0 0 2 = S; stamper 0 0 3 = S; "
                + "stamper 0 1 1 = S; stamper 0 2 0 = S; stamper 0 2 1 = S; stamper 1 0 1 = S; stamper 1 1 0 = S; "
                + "stamper 0 1 0 = 2; stamper 0 1 2 = S; stamper 0 2 1 = S; stamper 0 2 0 = 3");
    }

    private static void press() {
        promise(17);
        cite("Presses discs today.");
        row(STAMPER + "pass 4; press 0 0 0 7; stamperIs 0 0 0 1 = 7; stamperIs 0 0 0 3 = 4; stamperIs 0 0 0 4 = 4; "
                + "stamperIs 0 0 0 2 = 0; stamperIs 0 0 0 0 = 0; pass 2; press 0 0 0 1; stamperIs 0 0 0 3 = 4; "
                + "stamperIs 0 0 0 4 = 6; pass 1; press 0 0 0 493 = S; stamperIs 0 0 0 4 = 6");
        row(STAMPER + "press 0 0 0 7; pass 2; press 0 0 0 1; stamperIs 0 0 0 3 = 0; stamperIs 0 0 0 4 = 2; fire 0; "
                + "press 0 0 0 1 = 9");
        cite("`discs`: 1 to 500");
        range(STAMPER, "press 0 0 0 #", 1, "1", 500, "500", "A");
        cite("Returns how many the STAMPER pressed in all.");
        row(TWO_SIDES + "press 0 1 1 5 = 25; press 0 1 0 3 = 3; press 1 0 0 1 = 21; press 0 1 1 1 = 26; "
                + "sell 0 1 1 9; press 0 1 1 1 = 27; back 0 1 1 9; press 0 1 1 1 = 28");
        stamperNames("press", " 1", "51");
        each(STAMPER + "press 0 0 0 500; ", "B", "press 1 0 0 0", "press 0 3 0 501", "press 0 0 4 1", "press -1 0 0 1");
    }

    private static void pressThrows() {
        cite("Throws `IllegalArgumentException` if discs is out of range");
        each(STAMPER + "press 0 0 0 500; ", "A", "press 0 0 0 0", "press 0 0 0 501", "press 0 0 0 -1",
                "press 0 0 0 MAX", "press 0 0 0 MIN");
        each(STAMPER, "A", "press 0 0 1 0", "press 0 0 1 501", "press 0 2 3 MAX");
        cite("Throws `IllegalStateException` if the STAMPER is not made,");
        each(STAMPER, "S", "press 0 0 1 1", "press 0 1 0 1", "press 0 2 3 500");
        each(SIDE, "S", "press 0 0 0 1", "press 0 0 0 500");
        cite("or would press more than 500");
        row(STAMPER + "press 0 0 0 499; press 0 0 0 2 = S; press 0 0 0 500 = S; press 0 0 0 1 = 500; press 0 0 0 1 = S; "
                + "press 0 0 0 500 = S; sell 0 0 0 500; back 0 0 0 500; press 0 0 0 1 = S; stamperIs 0 0 0 1 = 500");
        row(STAMPER + "press 0 0 0 1; press 0 0 0 500 = S; press 0 0 0 499 = 500");
        row(STAMPER + "press 0 0 0 499; pass 1; press 0 0 0 2 = S; stamperIs 0 0 0 4 = 0; pass 1; press 0 0 0 1 = 500; "
                + "stamperIs 0 0 0 4 = 2; pass 1; press 0 0 0 1 = S; stamperIs 0 0 0 4 = 2; stamperIs 0 0 0 3 = 0");
        row(STAMPER + "press 0 0 0 1 *400; press 0 0 0 101 = S; press 0 0 0 100 = 500; press 0 0 0 1 = S");
    }

    private static void stamperIs() {
        promise(18);
        cite("Tells of a STAMPER.");
        row(TWO_SIDES + "stamperIs 0 1 1 1 = 20; stamperIs 1 0 0 1 = 20; stamperIs 0 1 0 1 = 0; press 1 0 0 1; "
                + "stamperIs 1 0 0 1 = 21; stamperIs 0 1 1 1 = 20; stamperIs 0 0 0 1 = 0");
        cite("`what`: 0 the day on which it was made, NONE if it is not,");
        row(SIDE + "stamperIs 0 0 0 0 = NONE; stamper 0 0 0; stamperIs 0 0 0 0 = 0; stamperIs 0 2 3 0 = NONE; pass 9; "
                + "stamperIs 0 0 0 0 = 0; stamper 0 0 1; stamperIs 0 0 1 0 = 9; press 0 0 1 1; stamperIs 0 0 1 0 = 9; "
                + "pass 1; stamper 0 0 1 = S; stamperIs 0 0 1 0 = 9");
        cite("1 how many it pressed,");
        row(SIDE + "stamperIs 0 0 0 1 = 0; stamper 0 0 0; stamperIs 0 0 0 1 = 0; press 0 0 0 500; "
                + "stamperIs 0 0 0 1 = 500; sell 0 0 0 9; back 0 0 0 9; stamperIs 0 0 0 1 = 500");
        cite("2 how many are sold and did not come back,");
        row(SIDE + "stamperIs 0 0 0 2 = 0; stamper 0 0 0; stamperIs 0 0 0 2 = 0; press 0 0 0 500; "
                + "stamperIs 0 0 0 2 = 0; sell 0 0 0 9; sell 0 0 0 1; stamperIs 0 0 0 2 = 10; disc 0 0 0; "
                + "stamperIs 0 0 0 2 = 10; back 0 0 0 9; stamperIs 0 0 0 2 = 1");
        cite("3 the day of its first pressing,");
        row(STAMPER + "pass 5; press 0 0 0 1; pass 6; press 0 0 0 1; stamperIs 0 0 0 3 = 5");
        row(STAMPER + "press 0 0 0 1; pass 6; press 0 0 0 1; stamperIs 0 0 0 3 = 0");
        cite("4 of its latest one,");
        row(STAMPER + "press 0 0 0 1; stamperIs 0 0 0 4 = 0; pass 5; press 0 0 0 1; stamperIs 0 0 0 4 = 5; pass 6; "
                + "press 0 0 0 1; stamperIs 0 0 0 4 = 11; sell 0 0 0 1; pass 1; back 0 0 0 1; stamperIs 0 0 0 4 = 11");
        cite("both NONE without");
        row(SIDE + "stamperIs 0 0 0 3 = NONE; stamperIs 0 0 0 4 = NONE; stamper 0 0 0; stamperIs 0 0 0 3 = NONE; "
                + "stamperIs 0 0 0 4 = NONE; press 0 0 0 501 = A; stamperIs 0 0 0 3 = NONE; stamperIs 0 0 0 4 = NONE");
        stamperNames("stamperIs", " 0", "0");
        each(STAMPER, "B", "stamperIs 1 0 0 5", "stamperIs 0 3 0 -1", "stamperIs 0 0 4 5", "stamperIs -1 -1 -1 -1");
        cite("Throws `IllegalArgumentException` if what is out of range");
        range(STAMPER + "pass 7; press 0 0 0 1; ", "stamperIs 0 0 0 #", 0, "0", 4, "7", "A");
        range(STAMPER, "stamperIs 0 2 3 #", 0, "-1", 4, "-1", "A");
    }

    private static void sell() {
        promise(19);
        cite("Sells discs today.");
        row(PRESSED + "contract 0 1000 0; pass 9; sell 0 0 0 100; account 0 = 750; stamperIs 0 0 0 2 = 100; "
                + "stamperIs 0 0 0 1 = 500; contract 0 0 0; sell 0 0 0 100; account 0 = 750; stamperIs 0 0 0 2 = 200");
        cite("`discs`: 1 to 500");
        range(PRESSED, "sell 0 0 0 #", 1, "1", 500, "500", "A");
        cite("Returns how many are sold and did not come back.");
        row(TWO_SIDES + "sell 0 1 1 5 = 5; sell 1 0 0 2 = 2; sell 0 1 1 3 = 8; back 0 1 1 6; sell 0 1 1 4 = 6; "
                + "disc 0 1 1; sell 0 1 1 1 = 7; press 0 1 0 9; sell 0 1 0 1 = 1");
        stamperNames("sell", " 1", "10");
        each(STAMPER, "B", "sell 1 0 0 0", "sell 0 3 0 501", "sell 0 0 4 1", "sell -1 0 0 1");
    }

    private static void sellThrows() {
        cite("Throws `IllegalArgumentException` if discs is out of range");
        each(STAMPER, "A", "sell 0 0 0 0", "sell 0 0 0 501", "sell 0 0 0 -1", "sell 0 0 0 MAX", "sell 0 0 0 MIN",
                "sell 0 0 1 0", "sell 0 2 3 501");
        each(SALES_99 + "sell 0 0 0 1; ", "A", "sell 0 0 0 0", "sell 0 0 0 501");
        cite("Throws `IllegalStateException` if there are not so many that are pressed and were never sold,");
        row(SIDE + "sell 0 0 0 1 = S; stamper 0 0 0; sell 0 0 0 1 = S; press 0 0 0 10; sell 0 0 0 11 = S; "
                + "sell 0 0 0 500 = S; sell 0 0 0 4; sell 0 0 0 7 = S; sell 0 0 0 6 = 10; sell 0 0 0 1 = S; "
                + "back 0 0 0 10; sell 0 0 0 1 = S; press 0 0 0 2; sell 0 0 0 3 = S; sell 0 0 0 2 = 2; "
                + "sell 0 0 0 1 = S; sell 0 0 1 1 = S; stamperIs 0 0 0 2 = 2");
        cite("or there were 100 sales of all, those that came back with them");
        row(SALES_99 + "sell 0 0 0 1 = 99; sell 0 0 0 1 = S; sell 0 0 1 1 = S; sell 0 0 0 500 = S; back 0 0 0 99; "
                + "sell 0 0 0 1 = S; back 0 0 1 98; sell 0 0 1 1 = S; stamperIs 0 0 0 2 = 0");
        each(SALES_99 + "sell 0 0 0 1; ", "B", "sell 1 0 0 1", "sell 0 3 0 1", "sell 0 0 4 1");
        row(SALES_99 + "account 0 = 1463; account 1 = 196; sell 0 0 0 1; account 0 = 1470; sell 0 0 0 100 = S; "
                + "account 0 = 1470; accountAnew 0 = 1470; account 1 = 197; accountAnew 1 = 197");
        row(SALES_99 + "sell 0 0 0 403 = S; sell 0 0 1 402 = S; sell 0 0 2 1 = S; sell 0 0 1 400 = 498; "
                + "sell 0 0 0 1 = S");
        row(TWO_SIDES + "sell 0 1 1 1 *10; sell 1 0 0 1 *10; press 0 1 0 90; sell 0 1 0 1 *79; sell 0 1 1 1 = 11; "
                + "sell 0 1 1 1 = S; sell 1 0 0 1 = S; sell 0 1 0 1 = S");
    }

    private static void back() {
        promise(20);
        cite("Lets discs come back; they are sold no more, and cannot be sold again.");
        row(STAMPER + "press 0 0 0 10; sell 0 0 0 10; back 0 0 0 4; stamperIs 0 0 0 2 = 6; stamperIs 0 0 0 1 = 10; "
                + "sell 0 0 0 1 = S; disc 0 0 0 *6; disc 0 0 0 = S");
        cite("`discs`: 1 to 500");
        range(PRESSED + "sell 0 0 0 300; sell 0 0 0 200; ", "back 0 0 0 #", 1, "499", 500, "0", "A");
        cite("Returns how many are sold and did not come back.");
        row(TWO_SIDES + "sell 0 1 1 9; sell 1 0 0 8; back 0 1 1 2 = 7; back 1 0 0 1 = 7; back 0 1 1 6 = 1; "
                + "sell 0 1 1 3 = 4; disc 0 1 1; back 0 1 1 1 = 3; back 0 1 1 2 = 1; back 1 0 0 7 = 0");
        stamperNames("back", " 1", "8");
        each(STAMPER, "B", "back 1 0 0 0", "back 0 3 0 501", "back 0 0 4 1", "back -1 0 0 1");
    }

    private static void backThrows() {
        cite("Throws `IllegalArgumentException` if discs is out of range");
        each(STAMPER, "A", "back 0 0 0 0", "back 0 0 0 501", "back 0 0 0 -1", "back 0 0 0 MAX", "back 0 0 0 MIN",
                "back 0 0 1 0", "back 0 2 3 501");
        cite("Throws `IllegalStateException` if there are not so many that are sold, did not come back, and are no "
                + "DISCS");
        row(SIDE + "back 0 0 0 1 = S; stamper 0 0 0; back 0 0 0 1 = S; press 0 0 0 500; back 0 0 0 1 = S; "
                + "sell 0 0 0 6; sell 0 0 0 4; back 0 0 0 11 = S; back 0 0 0 500 = S; disc 0 0 0; disc 0 0 0; "
                + "back 0 0 0 9 = S; back 0 0 0 10 = S; back 0 0 0 8 = 2; back 0 0 0 1 = S; back 0 0 0 2 = S; "
                + "sell 0 0 0 1; back 0 0 0 2 = S; back 0 0 0 1 = 2; back 0 0 0 1 = S");
        row(TWO_SIDES + "sell 0 1 1 9; sell 1 0 0 2; press 0 1 0 5; back 0 1 0 1 = S; back 0 0 0 1 = S; "
                + "back 1 0 0 3 = S; disc 1 0 0; back 1 0 0 2 = S; back 1 0 0 1 = 1; back 0 1 1 9 = 0");
        row(PRESSED + "contract 0 1000 0; sell 0 0 0 30; disc 0 0 0 *20; back 0 0 0 11 = S; account 0 = 225; "
                + "back 0 0 0 10 = 20; account 0 = 150; accountAnew 0 = 150; back 0 0 0 1 = S");
        row(PRESSED + "contract 0 400 0; sell 0 0 0 1 *100; back 0 0 0 1 = 99; account 0 = 297; accountAnew 0 = 297; "
                + "back 0 0 0 98 = 1; account 0 = 3; accountAnew 0 = 3; back 0 0 0 1 = 0; account 0 = 0");
    }
}
