/** The sentences of the document ahead of its promises. */
final class TermSentences extends Sentences {
    /** Something of all that there is, used in every way. */
    private static final String RICH = "session 0 300 0; session 1 100 1; session 2 50 2; session 0 20 3; "
            + "splice 0 10 60 1 0; shed 2; shed 3; pass 5; bake 3; add 0; add 1; cut 1; add 0; cut 1; add 0; "
            + "add 4; stamper 0 0 0; stamper 0 0 1; stamper 1 0 0; press 0 0 0 100; press 0 0 1 9; "
            + "press 1 0 0 50; contract 0 1000 7; contract 1 333 0; sell 0 0 0 60; sell 0 0 0 7; "
            + "back 0 0 0 3; sell 1 0 0 20; payOut 0; disc 0 0 0; disc 0 0 0; disc 1 0 0; play 0 2 9; "
            + "play 1 1 20; scratch 1 7; scratch 2 0; file 3; repair 7; repair 0; repair 7; undo; "
            + "contract 0 2000 0; ";

    static void run() {
        document.enter("What it is");
        whatItIs();
        terms();
        exceptions();
        nothingChanges();
        numbers();
        tapes();
        splices();
        howTapesAre();
        programsAndSides();
        stampers();
        discs();
        noise();
        joinsAndFiles();
        royalties();
        constants();
    }

    private static void whatItIs() {
        cite("Sound kept on tape and discs: takes, splices and copies by generations, tapes that shed and are "
                + "baked once, vaults that burn, sides cut within their length by loudness, mothers and "
                + "stampers that are good for so many, pressings dated by what made them, discs that wear, the "
                + "best of several copies joined part by part, repairs that can be undone, contracts in "
                + "versions, royalties by what is on a side, returns, and what is lost.");
        row(RICH + "tapeIs 4 3 = 1; tapeIs 2 0 = 1; bake 2 = 35; fire 1 = 1; cut 5 = 2; press 0 0 1 492 = S; "
                + "stamperIs 0 0 0 3 = 5; noise 0 7 = 9; join 3 7 = 0; undo = 0; contract 1 9 0 = 52; "
                + "sell 0 0 1 9 = 9; back 0 0 0 62 = 2; fire 0 = 2; isLost 0 = 0");
        cite("An object is used for at most 512 calls after it has been made; what later calls answer is free.");
        row("session 0 900 0; heard 0 899 *511 = 899");
        row("pass 1 *512 = 512");
        row("fire 0 *512 = 0");
        row("clear *512 = 0");
        row("contract 5 9999 999999 *512 = -511999488");
        row("contract 5 0 1 *511 = -511; payOut 5 = 0");
        row(PRESSED + "sell 0 0 0 1; disc 0 0 0; scratch 0 0 *503 = 2515");
        row(PRESSED + "sell 0 0 0 1; disc 0 0 0; play 0 3 50 *501 = 75150; noise 0 7 = 37575; grade 0 = 4");
        row(STAMPER + "press 0 0 0 1 *500 = 500; press 0 0 0 1 = S");
        row(PRESSED + "sell 0 0 0 1; disc 0 0 0; scratch 0 7; file 1; "
                + "repair 7; undo; ".repeat(250) + "fileIs 7 = 5");
        row(PRESSED + "contract 0 9999 0; " + "sell 0 0 0 5; payOut 0; back 0 0 0 5; ".repeat(100)
                + "account 0 = -374");
        row("session 0 1 0; " + "add 0; clear; ".repeat(255) + "clear = 0");
        row("session 0 1 0 *30; " + "fire 0; ".repeat(400) + "isLost 29 = 1; tapeIs 29 2 = 1");
    }

    private static void exceptions() {
        cite("Takes, tapes, sides, stampers, pressings, sales, discs, files, contracts and days are told; spans, "
                + "ways, dates, grades, joins, dues and losses can be asked for.");
        row("pass 3 = 3; session 0 300 0 = 0; contract 0 1000 0 = 0; add 0 = 1; cut 1 = 0; stamper 0 0 0 = 1; "
                + "press 0 0 0 500 = 500; sell 0 0 0 100 = 100; disc 0 0 0 = 0; file 1 = 0; tapeIs 0 5 = 1; "
                + "takesAnew 0 = 1; stamperIs 0 0 0 3 = 3; grade 0 = 0; join 1 0 = 0; account 0 = 1000; "
                + "isLost 0 = 0");
        cite("A method throws IndexOutOfBoundsException if there is no such ARTIST, VAULT, TAPE, SIDE, STAMPER, "
                + "DISC or PART,");
        each(DISCS, "B", "contract 6 0 0", "fire 4", "takes 2", "seconds 2 0", "stamperIs 0 3 0 0",
                "stamperIs 0 0 4 0", "grade 3", "fileIs 8");
        cite("IllegalArgumentException if another argument is out of range,");
        each(DISCS, "A", "session 0 0 0", "splice 0 300 301 1 0", "tapeIs 0 6", "heard 0 -1", "cut 6",
                "press 0 0 0 0", "stamperIs 0 0 0 5", "sell 0 0 0 501", "back 0 0 0 0", "play 0 4 1", "join 0 0",
                "file 8", "contract 0 10000 0", "pass 0");
        cite("and IllegalStateException as it documents;");
        each(DISCS, "S", "bake 0", "cut 1", "stamper 0 0 0", "press 0 0 0 492", "sell 0 0 0 5", "back 0 0 0 5",
                "disc 0 0 3", "join 5 0", "file 5", "undo", "repair 0");
        cite("if several apply, the one that it lists first is thrown.");
        each("session 0 1 0 *30; shed 0; pass 999 *10; ", "B", "session 6 0 0", "splice 30 0 2 NONE 0", "shed 30",
                "bake 30", "tapeIs 30 6", "heard 30 -1", "add 30", "stamper 0 0 0", "press 0 0 0 0",
                "stamperIs 0 0 0 5", "sell 0 0 0 0", "back 0 0 0 0", "disc 0 0 0", "play 0 0 0", "join 0 8",
                "repair 8", "contract 6 -1 -1");
        each("session 0 1 0 *30; shed 0; pass 999 *10; ", "A", "session 0 0 0", "splice 0 0 2 NONE 0", "cut 0",
                "join 1 0", "file 1", "pass 1000");
    }

    private static void nothingChanges() {
        cite("A call that throws changes nothing.");
        each(RICH, "B", "session 6 1 0", "session 0 1 4", "splice 5 0 1 0 0", "splice 0 0 1 5 0",
                "splice 0 0 1 0 4", "shed 5", "bake 5", "fire 4", "tapeIs 5 0", "heard 5 0", "takes 5",
                "takesAnew 5", "isLost 5", "isLost 4", "add 5", "seconds 2 0", "seconds 0 6", "stamper 2 0 0",
                "stamper 0 3 0", "stamper 0 0 4", "press 2 0 0 1", "stamperIs 2 0 0 0", "sell 2 0 0 1",
                "back 2 0 0 1", "disc 2 0 0", "play 3 1 1", "scratch 3 0", "scratch 0 8", "noise 3 0",
                "noise 0 8", "grade 3", "join 3 8", "repair 8", "fileIs 8", "contract 6 1 1", "account 6",
                "accountAnew 6", "payOut 6");
        each(RICH, "A", "session 0 901 0", "splice 0 1 1 0 0", "splice 0 0 301 0 0", "tapeIs 0 6",
                "heard 0 -1", "cut 0", "press 0 0 0 501", "stamperIs 0 0 0 5", "sell 0 0 0 501",
                "back 0 0 0 501", "play 0 0 9", "play 0 1 51", "join 8 0", "file 0", "file 8",
                "contract 0 10000 9", "contract 0 5 1000000", "contract 1 -1 9", "contract 1 9 -1", "pass 1000");
        each(RICH, "S", "splice 2 0 1 NONE 0", "splice 0 0 1 2 0", "shed 2", "shed 3", "bake 0", "bake 3",
                "add 2", "stamper 0 0 0", "stamper 0 0 3", "stamper 0 2 0", "press 0 0 0 401", "press 0 1 0 1",
                "sell 0 0 0 34", "sell 0 1 0 1", "back 0 0 0 63", "back 0 1 0 1", "disc 0 0 1", "disc 0 1 0",
                "join 5 0", "file 7");
        row(RICH + "fire 0; cut 1 = S");
        row(RICH + "add 0 *4; add 0 = S; cut 1 = S; clear = 6");
        row(RICH + "repair 3 *18; repair 7 = S");
        row(RICH + "undo *2; undo = S; fileIs 7 = 9");
        row(RICH + "pass 999 *10; pass 5 = S");
        row(RICH + "session 0 1 0 *25; session 0 1 0 = S; splice 0 0 1 0 0 = S");
    }

    private static void numbers() {
        cite("Divisions are rounded down.");
        row(DISCS + "play 0 1 15; noise 0 0 = 0; play 0 1 1; noise 0 0 = 1; play 0 1 15; noise 0 0 = 1; "
                + "scratch 1 2; file 2; repair 2 = 2; repair 2 = 1; repair 2 = 0");
        row(PRESSED + "contract 1 399 0; sell 0 0 0 1; account 1 = 0; accountAnew 1 = 0; contract 1 400 0; "
                + "sell 0 0 0 1; account 1 = 1; accountAnew 1 = 1; contract 1 799 0; sell 0 0 0 1; account 1 = 2");
        cite("Time goes by days, from 0 on, to 9999;");
        row(STAMPER + "stamperIs 0 0 0 0 = 0; pass 1 = 1; stamper 0 0 1; stamperIs 0 0 1 0 = 1");
        row(SIDE + "pass 999 *10; pass 9 = 9999; pass 1 = S; stamper 0 0 0; stamperIs 0 0 0 0 = 9999; "
                + "press 0 0 0 1; stamperIs 0 0 0 3 = 9999; stamperIs 0 0 0 4 = 9999; sell 0 0 0 1 = 1; "
                + "session 0 1 0; shed 2; tapeIs 2 1 = 0; bake 2; tapeIs 2 1 = 1");
        cite("money is in cents.");
        row(PRESSED + "contract 0 100 1; sell 0 0 0 100; account 0 = 74; payOut 0 = 74");
        cite("Sets are told by bits.");
        row("session 0 1 0 *30; takes 0 = 1; takes 1 = 2; takes 29 = 536870912; takesAnew 29 = 536870912");
        row("session 0 1 0 *29; splice 28 0 1 0 0; takes 29 = 268435457; takesAnew 29 = 268435457");
        row(DISCS + "join 1 0 = 0; join 2 0 = 1; join 3 0 = 0; join 4 0 = 2; file 4 = 0");
        row(PRESSED + "sell 0 0 0 20; disc 0 0 0 *20; join ALL20 0 = 0; join 524288 0 = 19; join 1048576 0 = A");
    }

    private static void tapes() {
        cite("There are the ARTISTS 0 to 5, and the VAULTS 0 to 3.");
        range("", "session # 1 0", 0, "0", 5, "0", "B");
        range("", "contract # 1 7", 0, "-7", 5, "-7", "B");
        range("", "account #", 0, "0", 5, "0", "B");
        range("", "accountAnew #", 0, "0", 5, "0", "B");
        range("", "payOut #", 0, "0", 5, "0", "B");
        range(SIDE, "seconds 0 #", -1, "400", 5, "0", "B");
        range("", "session 0 1 #", 0, "0", 3, "0", "B");
        range("session 0 1 0; ", "splice 0 0 1 NONE #", 0, "1", 3, "1", "B");
        range("session 0 1 0; session 0 1 3; ", "fire #", 0, "1", 3, "1", "B");
        cite("TAPES are numbered from 0, at most 30;");
        row("takes 0 = B; session 0 1 0 = 0; takes 1 = B; splice 0 0 1 NONE 0 = 1; takes 2 = B; "
                + "session 0 1 0 = 2; session 0 1 0 *27 = 29; takes 29 = 536870912; takes 30 = B; "
                + "session 0 1 0 = S; splice 0 0 1 NONE 0 = S; takes 30 = B");
        cite("a TAPE is a row of SPANS, each of a TAKE, from a second of it up to another one, that one not with "
                + "it;");
        row("session 0 10 0; session 1 5 0; splice 0 2 6 1 0 = 2; tapeIs 2 5 = 2; heard 2 0 = 2; heard 2 3 = 5; "
                + "heard 2 4 = 1000; heard 2 8 = 1004; heard 2 9 = NONE");
        cite("its LENGTH is all its SPANS together;");
        row("session 0 10 0; session 1 5 0; tapeIs 1 2 = 5; splice 0 2 6 1 0; tapeIs 2 2 = 9; splice 2 3 9 2 0; "
                + "tapeIs 3 2 = 15");
        row("session 0 900 0; splice 0 0 900 0 0; splice 1 0 1800 1 0; splice 2 0 3600 2 0; splice 3 0 7200 3 0; "
                + "splice 4 0 3600 4 0; tapeIs 5 2 = 18000; tapeIs 5 5 = 20; heard 5 17999 = 899; "
                + "heard 5 18000 = NONE; takesAnew 5 = 1; splice 5 17999 18000 NONE 0; heard 6 0 = 899");
        cite("it has a GENERATION, and is in a VAULT.");
        row("session 0 10 3; splice 0 0 10 NONE 2; tapeIs 0 3 = 0; tapeIs 0 4 = 3; tapeIs 1 3 = 1; tapeIs 1 4 = 2");
        cite("A session makes a TAPE with one SPAN, of a new TAKE as a whole, in the GENERATION 0;");
        row("session 0 10 0; splice 0 0 10 0 0; session 1 900 0 = 2; tapeIs 2 5 = 1; heard 2 0 = 2000; "
                + "heard 2 899 = 2899; heard 2 900 = NONE; tapeIs 2 3 = 0; takes 2 = 4");
        cite("a TAKE has the number of that TAPE, and is of an ARTIST.");
        row("session 0 10 0; splice 0 0 10 NONE 0; session 5 20 0; heard 2 0 = 2000; isLost 2 = 0; isLost 1 = B; "
                + "add 2; add 1; cut 1; seconds 0 5 = 20; seconds 0 0 = 10; seconds 0 2 = 0");
    }

    private static void splices() {
        String two = "session 0 10 0; session 1 5 1; ";
        cite("A splice makes a TAPE of a part of one TAPE, from a second up to another one, that one not with it, "
                + "and then another TAPE as a whole, or nothing more;");
        row(two + "splice 0 9 10 1 0; tapeIs 2 2 = 6; heard 2 0 = 9; heard 2 1 = 1000; heard 2 5 = 1004; "
                + "heard 2 6 = NONE");
        row(two + "splice 0 0 1 NONE 0; tapeIs 2 2 = 1; heard 2 0 = 0; heard 2 1 = NONE");
        row(two + "splice 0 0 10 NONE 0; tapeIs 2 2 = 10; heard 2 9 = 9; heard 2 10 = NONE; takes 2 = 1");
        cite("a SPAN that is cut is parted.");
        row(two + "splice 0 0 10 1 0; splice 2 9 11 NONE 0; tapeIs 3 5 = 2; heard 3 0 = 9; heard 3 1 = 1000; "
                + "splice 2 10 15 NONE 0; tapeIs 4 5 = 1; splice 2 0 10 NONE 0; tapeIs 5 5 = 1; "
                + "splice 2 0 11 NONE 0; tapeIs 6 5 = 2; splice 2 9 15 NONE 0; tapeIs 7 5 = 2; "
                + "splice 2 3 7 NONE 0; tapeIs 8 5 = 1; tapeIs 8 2 = 4; takes 4 = 2; takes 5 = 1; takes 6 = 3; "
                + "takesAnew 4 = 2; takesAnew 5 = 1; takesAnew 6 = 3; takesAnew 7 = 3; takesAnew 8 = 1");
        cite("Its GENERATION is one more than the greater one of those of which it was made.");
        row(two + "splice 0 0 1 NONE 0; tapeIs 2 3 = 1; splice 2 0 1 NONE 0; tapeIs 3 3 = 2; splice 0 0 1 3 0; "
                + "tapeIs 4 3 = 3; splice 4 0 1 0 0; tapeIs 5 3 = 4; splice 4 0 1 4 0; tapeIs 6 3 = 4; "
                + "splice 5 0 1 6 0; tapeIs 7 3 = 5; splice 7 0 1 5 0; tapeIs 8 3 = 6");
        StringBuilder generations = new StringBuilder("session 0 1 0; ");
        for (int tape = 1; tape < 30; tape++) {
            generations.append("splice ").append(tape - 1).append(" 0 1 NONE 0; ");
        }
        row(generations + "tapeIs 29 3 = 29; heard 29 0 = 0; takesAnew 29 = 1");
        cite("SPANS that follow each other are never put together.");
        row("session 0 10 0; splice 0 0 5 NONE 0; splice 0 5 10 NONE 0; splice 1 0 5 2 0; tapeIs 3 5 = 2; "
                + "heard 3 4 = 4; heard 3 5 = 5; splice 3 4 6 NONE 0; tapeIs 4 5 = 2; splice 0 0 10 0 0; "
                + "tapeIs 5 5 = 2");
    }

    private static void howTapesAre() {
        cite("A TAPE is GOOD at first.");
        row("session 0 10 0; splice 0 0 1 NONE 0; tapeIs 0 0 = 0; tapeIs 1 0 = 0");
        row("session 0 10 0; shed 0; bake 0; splice 0 0 1 0 0; tapeIs 1 0 = 0; shed 1; tapeIs 1 0 = 1");
        row("fire 0; session 0 10 0; tapeIs 0 0 = 0");
        cite("One that is GOOD can SHED;");
        row("session 0 10 0; shed 0 = 0; tapeIs 0 0 = 1; shed 0 = S; bake 0; shed 0 = S; fire 0; shed 0 = S");
        cite("one that SHEDS can be BAKED, once;");
        row("session 0 10 0; bake 0 = S; shed 0; bake 0 = 30; tapeIs 0 0 = 2; bake 0 = S; pass 30; bake 0 = S; "
                + "shed 0 = S; pass 1; bake 0 = S; fire 0; bake 0 = S");
        cite("it is PLAYABLE, if it is GOOD, or was BAKED less than 30 days ago.");
        row("session 0 10 0; tapeIs 0 1 = 1; shed 0; tapeIs 0 1 = 0; pass 7; bake 0; tapeIs 0 1 = 1; pass 29; "
                + "tapeIs 0 1 = 1; pass 1; tapeIs 0 1 = 0; tapeIs 0 0 = 2; pass 1; tapeIs 0 1 = 0");
        row("session 0 10 0; shed 0; bake 0; fire 0; tapeIs 0 1 = 0");
        row("session 0 10 0; pass 999 *10; tapeIs 0 1 = 1");
        cite("A fire in a VAULT makes all TAPES there GONE, for ever.");
        row("session 0 10 0; session 0 10 1; session 0 10 1; session 0 10 1; shed 2; shed 3; bake 3; fire 1 = 3; "
                + "tapeIs 0 0 = 0; tapeIs 1 0 = 3; tapeIs 2 0 = 3; tapeIs 3 0 = 3; bake 2 = S; shed 1 = S; "
                + "pass 31; tapeIs 3 0 = 3; tapeIs 1 1 = 0; session 0 10 1; tapeIs 1 0 = 3; tapeIs 4 0 = 0");
    }

    private static void programsAndSides() {
        cite("A program is a row of at most 6 TAPES, that are PLAYABLE as they are told.");
        row("session 0 10 0; add 0 = 1; add 0 *5 = 6; add 0 = S; clear = 6; clear = 0");
        row("session 0 10 0; shed 0; add 0 = S; bake 0; add 0 = 1; pass 29; add 0 = 2; pass 1; add 0 = S; "
                + "clear = 2");
        row("session 0 10 0; add 0; fire 0; add 0 = S; clear = 1");
        cite("A SIDE is cut of the program at a LEVEL, 1 to 5:");
        range("session 0 10 0; add 0; ", "cut #", 1, "0", 5, "0", "A");
        cite("it has the SPANS of its TAPES, one behind the other, as they are;");
        row("session 0 10 0; session 1 20 0; splice 1 5 8 0 0; add 2; add 0; add 2; cut 1; seconds 0 NONE = 36; "
                + "seconds 0 0 = 30; seconds 0 1 = 6; fire 0; seconds 0 NONE = 36");
        cite("all of these TAPES have to be PLAYABLE then.");
        row("session 0 10 0; session 0 10 0; add 0; add 1; shed 0; cut 1 = S; bake 0; cut 1 = 0");
        row("session 0 10 0; session 0 10 0; add 0; add 1; shed 1; cut 1 = S; bake 1; pass 29; cut 1 = 0");
        row("session 0 10 0; session 0 10 1; add 0; add 1; fire 1; cut 1 = S; clear = 2");
        row("session 0 10 0; session 0 10 0; shed 1; bake 1; add 0; add 1; pass 30; cut 1 = S; clear = 2");
        cite("Its LENGTH is that of its TAPES together, and 3 seconds between two of them;");
        row("session 0 744 0; session 0 743 0; session 0 3 0; add 0; add 2; cut 5 = 0; add 2; add 0; add 2; "
                + "cut 5 = S; clear; add 2; add 0; cut 5 = 1; add 1; add 2; add 2; cut 5 = S");
        row("session 0 120 0; session 0 135 0; session 0 136 0; add 0 *5; add 1; cut 5 = 0; add 0 *5; add 2; "
                + "cut 5 = S; clear = 6; seconds 0 NONE = 735");
        cite("it is at most 1500 less 150 for each LEVEL.");
        lengths();
        cite("SIDES are numbered from 0, at most 10;");
        row("seconds 0 NONE = B; session 0 10 0; " + "add 0; cut 1; ".repeat(9) + "add 0; seconds 9 0 = B; "
                + "cut 1 = 9; seconds 9 0 = 10; add 0; cut 1 = S; clear = 1; seconds 10 0 = B");
        cite("their matrix is made at once, and bears 3 MOTHERS, each of which bears 4 STAMPERS.");
        row(SIDE + "stamperIs 0 0 0 0 = NONE; stamperIs 0 2 3 0 = NONE; stamperIs 0 3 0 0 = B; "
                + "stamperIs 0 0 4 0 = B; " + stampersOf(0) + "stamperIs 0 2 3 0 = 0; stamper 0 3 0 = B; "
                + "stamper 0 2 4 = B");
        StringBuilder allSides = new StringBuilder("session 0 10 0; ").append("add 0; cut 1; ".repeat(10));
        for (int side = 9; side >= 0; side--) {
            allSides.append(stampersOf(side));
        }
        row(allSides + "press 9 2 3 5; press 0 2 3 7; sell 9 2 3 2 = 2; stamperIs 9 2 3 1 = 5; stamperIs 0 2 3 1 = 7; "
                + "stamperIs 9 0 0 1 = 0; stamper 9 2 3 = S; disc 9 2 3 = 0; disc 0 2 3 = S");
    }

    /** For each level the longest side and one that is a second longer, of one tape and of two. */
    private static void lengths() {
        for (int level = 1; level <= 5; level++) {
            int most = 1500 - 150 * level;
            int rest = most - 600;
            String tapes = "session 0 600 0; session 1 " + rest + " 0; session 1 " + (rest + 1) + " 0; session 1 "
                    + (rest - 3) + " 0; session 1 " + (rest - 2) + " 0; splice 0 0 600 1 0; splice 0 0 600 2 0; ";
            String cut = "cut " + level;
            row(tapes + "add 5; " + cut + " = 0; seconds 0 NONE = " + most + "; add 6; " + cut
                    + " = S; clear = 1; add 0; add 3; " + cut + " = 1; seconds 1 NONE = " + (most - 3)
                    + "; add 0; add 4; " + cut + " = S; clear = 2; seconds 2 0 = B");
        }
    }

    private static void stampers() {
        cite("A STAMPER is named by its SIDE, its MOTHER, 0 to 2, and its own number, 0 to 3.");
        String full = SIDE + "add 0; cut 1; " + stampersOf(0) + "stamper 1 0 0; press 1 0 0 9; press 0 0 0 1; "
                + "press 0 2 0 2; press 0 0 3 3; press 0 2 3 4; ";
        range(full, "stamperIs # 0 0 1", 0, "1", 1, "9", "B");
        range(full, "stamperIs 0 # 0 1", 0, "1", 2, "2", "B");
        range(full, "stamperIs 0 0 # 1", 0, "1", 3, "3", "B");
        row(full + "stamperIs 0 2 3 1 = 4; stamperIs 0 1 0 1 = 0; stamperIs 0 0 1 1 = 0");
        cite("It is made once;");
        row(STAMPER + "stamper 0 0 0 = S; pass 1; stamper 0 0 0 = S; stamperIs 0 0 0 0 = 0");
        cite("MOTHERS, and of a MOTHER STAMPERS, in the order of their numbers:");
        row(SIDE + "stamper 0 2 0 = S; stamper 0 1 0 = S; stamper 0 0 3 = S; stamper 0 0 0 = 1; stamper 0 2 0 = S; "
                + "stamper 0 0 2 = S; stamper 0 0 3 = S; stamper 0 1 0 = 2; stamper 0 1 3 = S; stamper 0 2 0 = 3; "
                + "stamper 0 2 1 = 4; stamper 0 0 1 = 5; stamper 0 0 2 = 6; stamper 0 0 3 = 7");
        cite("a STAMPER with the number 0 needs that the MOTHER ahead has one, another one that the STAMPER ahead of "
                + "it is made.");
        for (int place = 1; place < 12; place++) {
            row(SIDE + neededBy(place, true) + " = " + (place / 4 + place % 4 + 1));
            row(SIDE + neededBy(place, false) + " = S");
        }
        row(SIDE + "stamper 0 0 0; stamper 0 0 1; stamper 0 0 2; stamper 0 0 3; stamper 0 1 1 = S; stamper 0 2 0 = S; "
                + "stamper 0 1 0 = 5");
        row(SIDE + "add 0; cut 1; stamper 0 0 0; stamper 1 0 1 = S; stamper 1 1 0 = S; stamper 1 0 0 = 1");
        cite("It presses at most 500 discs in all.");
        row(STAMPER + "press 0 0 0 500 = 500; press 0 0 0 1 = S; stamper 0 0 1; press 0 0 1 499; press 0 0 1 2 = S; "
                + "press 0 0 1 1 = 500; press 0 0 1 500 = S; sell 0 0 1 500; press 0 0 1 1 = S; back 0 0 1 500; "
                + "press 0 0 1 1 = S");
        cite("Of what it pressed some are sold;");
        row(STAMPER + "press 0 0 0 10; sell 0 0 0 11 = S; sell 0 0 0 10 = 10; sell 0 0 0 1 = S; "
                + "stamperIs 0 0 0 1 = 10; stamperIs 0 0 0 2 = 10");
        cite("some of these came back, and are not sold again.");
        row(STAMPER + "press 0 0 0 10; sell 0 0 0 6; back 0 0 0 6 = 0; sell 0 0 0 5 = S; sell 0 0 0 4 = 4; "
                + "sell 0 0 0 1 = S; back 0 0 0 4; sell 0 0 0 1 = S; press 0 0 0 1; sell 0 0 0 1 = 1");
    }

    /** The fewest stampers that one needs, with the last of them or without it, and then that one. */
    private static String neededBy(int place, boolean isWhole) {
        StringBuilder needed = new StringBuilder();
        int mother = place / 4;
        int number = place % 4;
        int all = mother + number - (isWhole ? 0 : 1);
        for (int i = 0; i < all; i++) {
            needed.append("stamper 0 ").append(Math.min(i, mother)).append(' ').append(Math.max(i - mother, 0));
            needed.append("; ");
        }
        return needed.append("stamper 0 ").append(mother).append(' ').append(number).toString();
    }

    private static void discs() {
        cite("DISCS are numbered from 0, at most 20:");
        row(PRESSED + "sell 0 0 0 21; grade 0 = B; disc 0 0 0 = 0; grade 1 = B; disc 0 0 0 *18 = 18; grade 19 = B; "
                + "disc 0 0 0 = 19; grade 19 = 0; disc 0 0 0 = S; grade 20 = B");
        cite("each is one of those that are sold of a STAMPER, and are not named as DISCS yet, nor came back.");
        row(STAMPER + "disc 0 0 0 = S; press 0 0 0 5; disc 0 0 0 = S; sell 0 0 0 2; disc 0 0 1 = S; disc 0 0 0 = 0; "
                + "back 0 0 0 1; disc 0 0 0 = S; sell 0 0 0 1; disc 0 0 0 = 1; disc 0 0 0 = S");
        cite("A DISC has the PARTS 0 to 7, the PART 7 innermost, and a WEAR, 0 at first;");
        row(DISCS + "play 0 1 2; noise 0 7 = 1; noise 0 6 = 0; noise 1 7 = 0");
        range(DISCS + "scratch 0 7; ", "noise 0 #", 0, "0", 7, "5", "B");
        range(DISCS, "scratch 0 #", 0, "5", 7, "5", "B");
        range(DISCS, "play 0 1 #", 1, "1", 50, "50", "A");
        cite("as it is played it is more by the needle, 1 to 3, for each time.");
        range(DISCS + "play 0 1 1; ", "play 0 # 7", 1, "8", 3, "22", "A");
        row(DISCS + "play 0 2 1 = 2; play 0 2 3 = 8; play 0 3 50 = 158; play 1 1 1 = 1");
    }

    private static void noise() {
        cite("The NOISE of a PART is 5 for each of its scratches, whole, and besides the WEAR times one more than "
                + "the number of the PART, that product alone divided by 16.");
        int[] wearOfFirstNoise = {16, 8, 6, 4, 4, 3, 3, 2};
        for (int part = 0; part <= 7; part++) {
            row(DISCS + "scratch 0 " + part + "; play 0 1 " + (wearOfFirstNoise[part] - 1) + "; noise 0 " + part
                    + " = 5; play 0 1 1; noise 0 " + part + " = 6; scratch 0 " + part + " = 11");
        }
        row(DISCS + "scratch 0 3 = 5; scratch 0 3 = 10; noise 0 2 = 0; noise 0 4 = 0; noise 1 3 = 0; play 0 1 50; "
                + "noise 0 0 = 3; noise 0 3 = 22; noise 0 6 = 21; noise 0 7 = 25");
        cite("The GRADE of a DISC is by the NOISE of all PARTS, together: 0 for 0, 1 for less than 20, 2 for less "
                + "than 80, 3 for less than 200, otherwise 4.");
        row(DISCS + "grade 0 = 0; play 0 1 1; grade 0 = 0; play 0 1 1; grade 0 = 1; play 0 1 8; grade 0 = 1");
        row(DISCS + "scratch 0 0 *3; grade 0 = 1; scratch 0 7; grade 0 = 2; scratch 0 1 *11; grade 0 = 2; "
                + "scratch 0 2; grade 0 = 3; scratch 0 6 *23; grade 0 = 3; scratch 0 3; grade 0 = 4; "
                + "scratch 0 0; grade 0 = 4; grade 1 = 0");
        // 10 of wear are 0, 1, 1, 2, 3, 3, 4 and 5: 19 together, and so 1 less than each boundary
        row(DISCS + "play 0 1 10; grade 0 = 1; scratch 0 4 *12; grade 0 = 2; scratch 0 5 *24; grade 0 = 3; "
                + "scratch 0 0; grade 0 = 4");
    }

    private static void joinsAndFiles() {
        cite("The JOIN of a set of DISCS, all of one SIDE, has for each PART the NOISE of that DISC for which it is "
                + "the least;");
        row(DISCS + "play 0 2 8; scratch 1 7 *2; join 3 7 = 0; join 3 6 = 1; join 3 0 = 1; file 3 = 8; fileIs 7 = 8; "
                + "fileIs 6 = 0; join 5 7 = S; file 6 = S; join 7 0 = S");
        cite("of several the lowest one is taken.");
        row(DISCS + "disc 0 0 0; join 11 0 = 0; scratch 0 0; join 11 0 = 1; join 10 0 = 1; scratch 1 0 *2; "
                + "join 11 0 = 3; join 3 0 = 0; scratch 3 0; join 11 0 = 0; join 9 0 = 0");
        cite("There is a FILE, empty at first:");
        row("fileIs 0 = NONE; fileIs 7 = NONE; repair 0 = S; undo = S");
        cite("it is made of a JOIN, with the NOISE of each PART, as it is then.");
        row(DISCS + "scratch 0 0; play 0 1 32; file 1 = 77; fileIs 0 = 7; fileIs 1 = 4; fileIs 2 = 6; fileIs 3 = 8; "
                + "fileIs 4 = 10; fileIs 5 = 12; fileIs 6 = 14; fileIs 7 = 16; scratch 0 0; play 0 3 50; "
                + "fileIs 0 = 7; fileIs 7 = 16");
        cite("A repair halves the NOISE of a PART, rounded down;");
        for (int part = 0; part <= 7; part++) {
            row(DISCS + "scratch 0 " + part + " *3; file 1 = 15; repair " + part + " = 7; fileIs " + part
                    + " = 7; repair " + part + " = 3; repair " + part + " = 1; repair " + part + " = 0; repair " + part
                    + " = 0; fileIs " + (part + 1) % 8 + " = 0; noise 0 " + part + " = 15");
        }
        cite("the latest one that was not undone can be undone, so that the NOISE is what it was ahead of it.");
        row(DISCS + "scratch 0 0 *3; scratch 0 7; file 1; repair 0; repair 7; repair 0; undo = 0; fileIs 0 = 7; "
                + "undo = 7; fileIs 7 = 5; repair 7 = 2; undo = 7; fileIs 7 = 5; undo = 0; fileIs 0 = 15; undo = S");
        cite("A new FILE is without repairs.");
        row(DISCS + "scratch 0 0; file 1; repair 0; file 1 = 5; undo = S; fileIs 0 = 5; repair 0 = 2; undo = 0; "
                + "undo = S; repair 0 *20; repair 0 = S; file 1; repair 0 *20; repair 0 = S");
    }

    private static void royalties() {
        cite("A contract of an ARTIST, from now on, has a rate, in cents for 100 discs, 0 at first, and an advance "
                + "that is paid at once.");
        row(PRESSED + "sell 0 0 0 100; account 0 = 0; contract 0 1000 40 = -40; account 0 = -40; accountAnew 0 = -40; "
                + "sell 0 0 0 100; account 0 = 710; contract 0 2000 0; account 0 = 710; sell 0 0 0 100; "
                + "account 0 = 2210; accountAnew 0 = 2210; contract 0 0 0; sell 0 0 0 100; account 0 = 2210; "
                + "accountAnew 0 = 2210; account 1 = 0");
        cite("Of a sale each ARTIST is due: its discs times the rate that holds as they are sold, times the seconds of "
                + "SPANS of TAKES of that ARTIST on the SIDE, divided by 100 times the seconds of all SPANS of it, "
                + "rounded down once.");
        row(PRESSED + "contract 0 1000 0; contract 1 1000 0; contract 2 9999 0; sell 0 0 0 100; account 0 = 750; "
                + "account 1 = 250; account 2 = 0; accountAnew 0 = 750; accountAnew 1 = 250; accountAnew 2 = 0");
        // 3 discs at 50 are 1.5 cents, and two thirds of that are 1: rounded twice it would be 0
        row("session 0 2 0; session 1 1 0; add 0; add 1; cut 1; stamper 0 0 0; press 0 0 0 9; contract 0 50 0; "
                + "sell 0 0 0 3; account 0 = 1; accountAnew 0 = 1; sell 0 0 0 1; account 0 = 1; sell 0 0 0 1; "
                + "account 0 = 1; accountAnew 0 = 1");
        // a half of 3 cents in two spans: by spans it would be 0
        row("session 0 1 0; session 1 2 0; add 0; add 1; add 0; cut 1; stamper 0 0 0; press 0 0 0 9; "
                + "contract 0 300 0; sell 0 0 0 1; account 0 = 1; accountAnew 0 = 1");
        row("session 3 675 0; splice 0 0 675 0 0; add 1; cut 1; stamper 0 0 0; press 0 0 0 500; contract 3 9999 0; "
                + "sell 0 0 0 500; account 3 = 49995; accountAnew 3 = 49995; back 0 0 0 499; account 3 = 99");
        cite("The ACCOUNT of an ARTIST is what was due, less advances and what was paid out, 0 at first; it can be "
                + "below 0.");
        row(PRESSED + "account 0 = 0; accountAnew 0 = 0; contract 0 1000 50; account 0 = -50; accountAnew 0 = -50; "
                + "sell 0 0 0 100; account 0 = 700; payOut 0 = 700; account 0 = 0; accountAnew 0 = 0; "
                + "back 0 0 0 100; account 0 = -750; accountAnew 0 = -750; payOut 0 = 0; account 0 = -750");
        cite("Discs come back of the latest sales of a STAMPER first:");
        String sales = PRESSED + "contract 0 400 0; sell 0 0 0 10; contract 0 800 0; sell 0 0 0 10; stamper 0 0 1; "
                + "press 0 0 1 9; contract 0 4000 0; sell 0 0 1 9; account 0 = 360; ";
        row(sales + "back 0 0 0 1; account 0 = 354; back 0 0 0 9; account 0 = 300; accountAnew 0 = 300; "
                + "back 0 0 0 1; account 0 = 297; back 0 0 0 9; account 0 = 270; accountAnew 0 = 270; "
                + "back 0 0 1 9; account 0 = 0; accountAnew 0 = 0");
        cite("for each of these sales less is due then:");
        row(sales + "back 0 0 0 11; account 0 = 297; accountAnew 0 = 297; back 0 0 0 9; account 0 = 270");
        row(sales + "back 0 0 0 20; account 0 = 270; accountAnew 0 = 270; back 0 0 0 1 = S");
        cite("what is due of it is by its own rates, as they were on its day, and by what is left of it, as told above.");
        row(PRESSED + "contract 0 1000 0; sell 0 0 0 7; account 0 = 52; contract 0 9 0; pass 1; back 0 0 0 1; "
                + "account 0 = 45; accountAnew 0 = 45; back 0 0 0 3; account 0 = 22; back 0 0 0 2; account 0 = 7; "
                + "back 0 0 0 1; account 0 = 0; accountAnew 0 = 0");
    }

    private static void constants() {
        cite("The constants: `NONE = -1`: There is none.");
        Due.is("NONE", -1, () -> MatrixHouse.NONE);
        row("session 0 1 0; heard 0 1 = -1; fileIs 0 = -1; splice 0 0 1 -1 0 = 1");
        cite("`GOOD = 0, SHEDS = 1, BAKED = 2, GONE = 3`: How TAPES are.");
        Due.is("GOOD", 0, () -> MatrixHouse.GOOD);
        Due.is("SHEDS", 1, () -> MatrixHouse.SHEDS);
        Due.is("BAKED", 2, () -> MatrixHouse.BAKED);
        Due.is("GONE", 3, () -> MatrixHouse.GONE);
        row("session 0 1 0; tapeIs 0 0 = 0; shed 0; tapeIs 0 0 = 1; bake 0; tapeIs 0 0 = 2; fire 0; tapeIs 0 0 = 3");
    }
}
