/** The sentences of the promises 1 to 11: tapes. */
final class TapeSentences extends Sentences {
    private static final String TWO = "session 0 10 0; session 1 5 1; ";
    private static final String FULL = TWO + "session 0 1 0 *28; ";

    static void run() {
        newObject();
        session();
        splice();
        spliceThrows();
        shedAndBake();
        fire();
        tapeIs();
        heard();
        takes();
        isLost();
    }

    private static void newObject() {
        promise(1);
        cite("The day 0;");
        row("pass 1 = 1");
        row("session 0 1 0; shed 0; bake 0 = 30");
        row(STAMPER + "press 0 0 0 1; stamperIs 0 0 0 0 = 0; stamperIs 0 0 0 3 = 0; stamperIs 0 0 0 4 = 0");
        cite("no TAPES.");
        each("", "B", "tapeIs 0 0", "heard 0 0", "takes 0", "takesAnew 0", "isLost 0", "shed 0", "bake 0", "add 0",
                "splice 0 0 1 NONE 0", "seconds 0 0", "stamper 0 0 0", "stamperIs 0 0 0 0", "grade 0", "noise 0 0",
                "play 0 1 1", "scratch 0 0");
        row("clear = 0; cut 1 = S; fire 0 = 0; fire 3 = 0; undo = S; repair 0 = S; fileIs 0 = NONE; fileIs 7 = NONE; "
                + "join 1 0 = A; file 1 = A; account 0 = 0; account 5 = 0; accountAnew 0 = 0; accountAnew 5 = 0; "
                + "payOut 0 = 0; session 0 1 0 = 0");
    }

    private static void session() {
        promise(2);
        cite("Holds a session.");
        row("session 3 42 2; tapeIs 0 0 = 0; tapeIs 0 1 = 1; tapeIs 0 2 = 42; tapeIs 0 3 = 0; tapeIs 0 4 = 2; "
                + "tapeIs 0 5 = 1; heard 0 0 = 0; heard 0 41 = 41; takes 0 = 1; takesAnew 0 = 1; isLost 0 = 0; add 0; "
                + "cut 1; seconds 0 3 = 42; seconds 0 0 = 0");
        cite("`seconds`: 1 to 900");
        range("", "session 0 # 0", 1, "0", 900, "0", "A");
        row("session 0 1 0; session 0 900 0; tapeIs 0 2 = 1; heard 0 0 = 0; heard 0 1 = NONE; tapeIs 1 2 = 900; "
                + "heard 1 899 = 1899; heard 1 900 = NONE");
        cite("Returns the number of the TAPE, and of the TAKE.");
        row("session 0 9 0 = 0; session 0 9 0 = 1; heard 1 0 = 1000; splice 1 0 1 0 0 = 2; session 0 9 0 = 3; "
                + "heard 3 8 = 3008; takes 3 = 8; takesAnew 3 = 8");
        cite("Throws `IndexOutOfBoundsException` if there is no such ARTIST or VAULT");
        range("", "session # 1 0", 0, "0", 5, "0", "B");
        range("", "session 0 1 #", 0, "0", 3, "0", "B");
        each(FULL, "B", "session 6 1 0", "session 6 0 0", "session -1 901 0", "session 0 1 4", "session 0 0 4",
                "session 0 901 -1", "session 6 901 4");
        cite("Throws `IllegalArgumentException` if seconds is out of range");
        each(TWO, "A", "session 0 0 0", "session 0 901 0", "session 5 -1 3", "session 0 MIN 0", "session 0 MAX 0");
        each(FULL, "A", "session 0 0 0", "session 0 901 0", "session 5 MAX 3");
        cite("Throws `IllegalStateException` if there are 30 TAPES");
        row("session 0 1 0 *29; session 0 1 0 = 29; session 0 1 0 = S; session 5 900 3 = S; fire 0; "
                + "session 0 1 0 = S");
        row("session 0 1 0 *15; splice 0 0 1 NONE 0 *14; session 0 1 0 = 29; session 0 1 0 = S");
        row("session 0 1 0 *15; splice 0 0 1 NONE 0 *15; session 0 1 0 = S");
    }

    private static void splice() {
        promise(3);
        cite("Splices, into a VAULT.");
        row(TWO + "splice 0 2 6 1 3 = 2; tapeIs 2 4 = 3; tapeIs 2 0 = 0; tapeIs 2 1 = 1; fire 0; tapeIs 2 0 = 0; "
                + "fire 3; tapeIs 2 0 = 3");
        range(TWO, "splice 0 2 6 1 #", 0, "2", 3, "2", "B");
        cite("`tape`: of which a part is taken");
        row(TWO + "splice 1 1 3 0 0; heard 2 0 = 1001; heard 2 1 = 1002; heard 2 2 = 0; heard 2 11 = 9; "
                + "heard 2 12 = NONE; tapeIs 1 2 = 5; tapeIs 0 2 = 10");
        range(TWO, "splice # 0 5 NONE 0", 0, "2", 1, "2", "B");
        cite("`from`: 0 or more");
        range(TWO, "splice 0 # 10 NONE 0", 0, "2", 9, "2", "A");
        row(TWO + "splice 0 0 10 NONE 0; heard 2 0 = 0; splice 0 9 10 NONE 0; heard 3 0 = 9; tapeIs 3 2 = 1");
        cite("`to`: above from, at most its LENGTH");
        range(TWO, "splice 0 3 # NONE 0", 4, "2", 10, "2", "A");
        range(TWO, "splice 0 9 # NONE 0", 10, "2", 10, "2", "A");
        range(TWO, "splice 0 0 # NONE 0", 1, "2", 10, "2", "A");
        range(TWO + "splice 0 0 10 1 0; ", "splice 2 14 # NONE 0", 15, "3", 15, "3", "A");
        row(TWO + "splice 0 3 4 NONE 0; tapeIs 2 2 = 1; heard 2 0 = 3; splice 0 3 10 NONE 0; tapeIs 3 2 = 7; "
                + "heard 3 6 = 9");
        each(TWO, "A", "splice 0 10 10 NONE 0", "splice 0 10 11 NONE 0", "splice 0 11 10 NONE 0",
                "splice 0 5 5 NONE 0", "splice 0 5 4 NONE 0", "splice 0 -1 -1 NONE 0", "splice 0 -2 -1 NONE 0",
                "splice 0 MIN MAX NONE 0", "splice 0 MAX MIN NONE 0", "splice 0 MAX MAX NONE 0",
                "splice 0 MIN MIN NONE 0", "splice 1 0 6 0 0");
        cite("`other`: the TAPE behind it; NONE for nothing more; the same one is possible");
        range(TWO, "splice 0 0 1 # 0", -1, "2", 1, "2", "B");
        row(TWO + "splice 0 0 1 NONE 0; tapeIs 2 2 = 1; splice 0 0 1 1 0; tapeIs 3 2 = 6; splice 0 9 10 0 0; "
                + "tapeIs 4 2 = 11; tapeIs 4 5 = 2; tapeIs 4 3 = 1; heard 4 0 = 9; heard 4 1 = 0; heard 4 10 = 9");
        cite("Returns the number of the TAPE.");
        row(TWO + "splice 0 0 1 NONE 0 = 2; splice 0 0 1 NONE 0 = 3; session 0 1 0 = 4; splice 4 0 1 3 0 = 5; "
                + "takes 5 = 17; takesAnew 5 = 17");
        cite("Throws `IndexOutOfBoundsException` if there is no such TAPE, of either, or VAULT");
        each(TWO + "shed 0; shed 1; ", "B", "splice 2 0 1 0 0", "splice -1 0 1 0 0", "splice 30 0 1 0 0",
                "splice MAX 0 1 0 0", "splice MIN 0 1 0 0", "splice 0 0 1 2 0", "splice 0 0 1 -2 0",
                "splice 0 0 1 30 0", "splice 0 0 1 MAX 0", "splice 0 0 1 MIN 0", "splice 0 0 1 1 4",
                "splice 0 0 1 1 -1", "splice 0 0 1 NONE 4", "splice 0 0 1 1 MAX", "splice 0 0 1 1 MIN");
        each(TWO + "shed 0; shed 1; ", "B", "splice 2 -1 1 0 0", "splice 0 -1 1 2 0", "splice 0 5 5 1 4",
                "splice 0 0 11 NONE 4", "splice -1 0 0 NONE 0", "splice 2 0 1 2 4");
        each(twentySpans(), "B", "splice 6 0 80 5 0", "splice 5 0 80 6 0", "splice 5 0 80 5 4");
        each(FULL, "B", "splice 30 0 1 0 0", "splice 0 0 1 30 0", "splice 0 0 1 0 4", "splice 0 1 1 -2 0");
    }

    private static void spliceThrows() {
        cite("Throws `IllegalArgumentException` if from or to is out of range");
        each(TWO + "shed 0; shed 1; ", "A", "splice 0 -1 1 0 0", "splice 0 1 1 0 0", "splice 0 0 11 0 0",
                "splice 1 0 6 NONE 0", "splice 1 5 5 0 0", "splice 1 5 6 0 0");
        each(FULL, "A", "splice 0 -1 1 0 0", "splice 0 1 1 NONE 0", "splice 0 0 11 0 0", "splice 29 0 2 0 0");
        each(twentySpans(), "A", "splice 5 0 81 0 0", "splice 5 -1 80 5 0", "splice 5 80 80 5 0");
        cite("Throws `IllegalStateException` if one is not PLAYABLE, there are 30 TAPES,");
        row(TWO + "shed 0; splice 0 0 1 NONE 0 = S; splice 0 0 1 1 0 = S; splice 1 0 1 0 0 = S; "
                + "splice 1 0 1 NONE 0 = 2; bake 0; splice 0 0 1 0 0 = 3; pass 29; splice 0 0 1 1 0 = 4; "
                + "splice 1 0 1 0 0 = 5; pass 1; splice 0 0 1 1 0 = S; splice 1 0 1 0 0 = S; "
                + "splice 2 0 1 5 0 = 6");
        row(TWO + "fire 0; splice 0 0 1 NONE 0 = S; splice 1 0 1 0 0 = S; splice 1 0 1 1 0 = 2; fire 1; "
                + "splice 1 0 1 2 0 = S; splice 2 0 1 1 0 = S; splice 2 0 1 2 0 = 3");
        row("session 0 1 0 *29; splice 28 0 1 28 0 = 29; splice 28 0 1 28 0 = S; splice 0 0 1 NONE 0 = S");
        row("session 0 1 0 *30; splice 29 0 1 NONE 0 = S");
        cite("or it would have more than 20 SPANS");
        row(twentySpans() + "tapeIs 5 5 = 20; splice 5 0 80 NONE 0 = 6; tapeIs 6 5 = 20; splice 5 0 80 0 0 = S; "
                + "splice 5 0 77 0 0 = S; splice 5 0 76 0 0 = 7; tapeIs 7 5 = 20; splice 5 3 80 0 0 = S; "
                + "splice 5 4 80 0 0 = 8; tapeIs 8 5 = 20; heard 8 79 = 3");
        row(twentySpans() + "splice 0 0 4 5 0 = S; splice 0 0 1 5 0 = S; splice 4 0 17 4 0 = S; "
                + "splice 4 0 16 4 0 = 6; tapeIs 6 5 = 20; splice 4 3 17 4 0 = S; splice 4 3 16 4 0 = 7; "
                + "tapeIs 7 5 = 20; splice 5 0 80 5 0 = S; splice 5 3 5 4 0 = 8; tapeIs 8 5 = 18");
    }

    /** The tape 5 has 20 spans of 4 seconds each, the tape 4 has 16. */
    private static String twentySpans() {
        return "session 0 4 0; splice 0 0 4 0 0; splice 1 0 8 1 0; splice 2 0 16 2 0; splice 3 0 32 3 0; "
                + "splice 2 0 16 4 0; ";
    }

    private static void shedAndBake() {
        promise(4);
        cite("Lets a TAPE SHED.");
        row(TWO + "shed 0 = 0; tapeIs 0 0 = 1; tapeIs 0 1 = 0; tapeIs 1 0 = 0; tapeIs 0 2 = 10; heard 0 9 = 9; "
                + "takes 0 = 1; isLost 0 = 0; splice 1 0 1 NONE 0; shed 2; tapeIs 2 0 = 1");
        cite("Throws `IndexOutOfBoundsException` if there is no such TAPE");
        range(TWO, "shed #", 0, "0", 1, "0", "B");
        range(FULL, "shed #", 0, "0", 29, "0", "B");
        cite("Throws `IllegalStateException` if it is not GOOD");
        row(TWO + "shed 0; shed 0 = S; bake 0; shed 0 = S; pass 30; shed 0 = S; fire 0; shed 0 = S; fire 1; "
                + "shed 1 = S");
        promise(5);
        cite("Bakes a TAPE, today.");
        row(TWO + "shed 0; pass 7; bake 0; tapeIs 0 0 = 2; tapeIs 0 1 = 1; tapeIs 1 0 = 0; pass 29; tapeIs 0 1 = 1; "
                + "pass 1; tapeIs 0 1 = 0; tapeIs 0 0 = 2");
        row(TWO + "shed 0; shed 1; bake 0 = 30; pass 10; bake 1 = 40; pass 20; tapeIs 0 1 = 0; tapeIs 1 1 = 1; "
                + "pass 10; tapeIs 1 1 = 0");
        cite("Returns the first day on which it is not PLAYABLE any more.");
        row(TWO + "shed 0; shed 1; bake 0 = 30; pass 999; bake 1 = 1029; pass 29; tapeIs 1 1 = 1; pass 1 = 1029; "
                + "tapeIs 1 1 = 0");
        row(TWO + "shed 0; pass 999 *10; pass 9; bake 0 = 10029; tapeIs 0 1 = 1");
        cite("Throws `IndexOutOfBoundsException` if there is no such TAPE");
        range("session 0 1 0; session 0 1 0; shed 0; shed 1; ", "bake #", 0, "30", 1, "30", "B");
        each(FULL, "B", "bake 30", "bake -1");
        cite("Throws `IllegalStateException` if it is not one that SHEDS");
        row(TWO + "bake 0 = S; shed 0; bake 0 = 30; bake 0 = S; pass 29; bake 0 = S; pass 1; bake 0 = S; shed 1; "
                + "fire 1; bake 1 = S; fire 0; bake 0 = S; tapeIs 0 0 = 3");
    }

    private static void fire() {
        promise(6);
        cite("Lets a VAULT burn.");
        row("session 0 9 0; session 0 9 1; session 0 9 2; session 0 9 3; fire 2; tapeIs 0 0 = 0; tapeIs 1 0 = 0; "
                + "tapeIs 2 0 = 3; tapeIs 3 0 = 0; tapeIs 2 1 = 0; tapeIs 2 4 = 2; tapeIs 2 2 = 9; tapeIs 2 5 = 1; "
                + "heard 2 8 = 2008; takes 2 = 4; takesAnew 2 = 4");
        cite("Returns how many TAPES are GONE by that.");
        row("fire 0 = 0; session 0 9 0; fire 1 = 0; fire 0 = 1; fire 0 = 0; session 0 9 0; session 0 9 0; shed 1; "
                + "fire 0 = 2; session 0 9 0; shed 3; bake 3; pass 30; fire 0 = 1; fire 0 = 0");
        row("session 0 1 3 *30; fire 3 = 30; fire 3 = 0");
        cite("Throws `IndexOutOfBoundsException` if there is no such VAULT");
        range("session 0 1 0; session 0 1 1; session 0 1 2; session 0 1 3; ", "fire #", 0, "1", 3, "1", "B");
    }

    private static void tapeIs() {
        promise(7);
        cite("Tells of a TAPE.");
        row("session 0 10 1; session 0 20 2; splice 0 3 8 1 3; tapeIs 0 2 = 10; tapeIs 0 4 = 1; tapeIs 1 2 = 20; "
                + "tapeIs 1 4 = 2; tapeIs 2 2 = 25; tapeIs 2 4 = 3");
        cite("`what`: 0 how it is, GOOD to GONE,");
        row("session 0 10 0; tapeIs 0 0 = 0; shed 0; tapeIs 0 0 = 1; bake 0; tapeIs 0 0 = 2; pass 30; tapeIs 0 0 = 2; "
                + "fire 0; tapeIs 0 0 = 3");
        cite("1 whether it is PLAYABLE (1 or 0),");
        row("session 0 10 0; tapeIs 0 1 = 1; shed 0; tapeIs 0 1 = 0; bake 0; tapeIs 0 1 = 1; pass 29; tapeIs 0 1 = 1; "
                + "pass 1; tapeIs 0 1 = 0; fire 0; tapeIs 0 1 = 0");
        row("session 0 10 0; shed 0; bake 0; fire 0; tapeIs 0 1 = 0");
        cite("2 its LENGTH,");
        row(TWO + "tapeIs 0 2 = 10; splice 0 9 10 1 0; tapeIs 2 2 = 6");
        cite("3 its GENERATION,");
        row(TWO + "tapeIs 0 3 = 0; splice 0 9 10 1 0; tapeIs 2 3 = 1; splice 0 9 10 2 0; tapeIs 3 3 = 2");
        cite("4 its VAULT,");
        row("session 0 1 0; session 0 1 3; tapeIs 0 4 = 0; tapeIs 1 4 = 3");
        cite("5 how many SPANS it has");
        row(twentySpans() + "tapeIs 0 5 = 1; tapeIs 1 5 = 2; tapeIs 4 5 = 16; tapeIs 5 5 = 20");
        cite("Throws `IndexOutOfBoundsException` if there is no such TAPE");
        range(TWO, "tapeIs # 3", 0, "0", 1, "0", "B");
        range(FULL, "tapeIs # 3", 0, "0", 29, "0", "B");
        each(TWO, "B", "tapeIs 2 6", "tapeIs -1 -1", "tapeIs NONE MAX");
        cite("Throws `IllegalArgumentException` if what is out of range");
        range(TWO + "fire 0; ", "tapeIs 0 #", 0, "3", 5, "1", "A");
    }

    private static void heard() {
        promise(8);
        cite("Returns the second of a TAKE that is heard at a second of a TAPE, and 1000 times the TAKE more.");
        row("session 0 20 0; session 0 10 0; splice 0 15 20 1 0; splice 2 3 12 2 0; heard 3 0 = 18; heard 3 1 = 19; "
                + "heard 3 2 = 1000; heard 3 8 = 1006; heard 3 9 = 15; heard 3 13 = 19; heard 3 14 = 1000; "
                + "heard 3 23 = 1009; heard 3 24 = NONE");
        row("session 0 1 0 *29; session 0 900 0; heard 29 0 = 29000; heard 29 899 = 29899; heard 28 0 = 28000");
        cite("`second`: 0 or more");
        row("session 0 900 0; heard 0 0 = 0; heard 0 1 = 1; heard 0 899 = 899; heard 0 -1 = A");
        cite("Returns that; NONE from the LENGTH on.");
        row(TWO + "heard 0 9 = 9; heard 0 10 = NONE; heard 0 11 = NONE; heard 0 MAX = NONE; heard 1 4 = 1004; "
                + "heard 1 5 = NONE; splice 0 0 10 1 0; heard 2 14 = 1004; heard 2 15 = NONE; heard 2 MAX = NONE; "
                + "fire 0; heard 2 14 = 1004; heard 2 15 = NONE");
        cite("Throws `IndexOutOfBoundsException` if there is no such TAPE");
        range(TWO, "heard # 0", 0, "0", 1, "1000", "B");
        range(FULL, "heard # 0", 0, "0", 29, "29000", "B");
        each(TWO, "B", "heard 2 -1", "heard -1 MIN", "heard -1 MAX");
        cite("Throws `IllegalArgumentException` if second is below 0");
        range(TWO, "heard 1 #", 0, "1000", Integer.MAX_VALUE, "-1", "A");
    }

    private static void takes() {
        String many = "session 0 10 0; session 1 10 0; session 2 10 0; splice 0 0 10 1 0; splice 3 9 20 2 0; "
                + "splice 4 0 1 NONE 0; splice 4 1 2 NONE 0; splice 4 10 12 NONE 0; splice 7 0 1 7 0; "
                + "splice 4 11 12 5 0; ";
        int[] sets = {1, 2, 4, 3, 7, 1, 2, 6, 6, 5};
        for (String name : new String[] {"takes", "takesAnew"}) {
            boolean isAnew = name.equals("takesAnew");
            promise(isAnew ? 10 : 9);
            cite(isAnew ? "Returns the same, found second by second, by the TAPES of which each was made."
                    : "Returns the TAKES on a TAPE.");
            for (int tape = 0; tape < sets.length; tape++) {
                row(many + name + " " + tape + " = " + sets[tape]);
            }
            row(many + "fire 0; " + name + " 4 = 7; " + name + " 9 = 5");
            row("session 0 10 0; splice 0 0 5 0 0; " + name + " 1 = 1; splice 1 0 15 1 0; " + name + " 2 = 1");
            cite("Returns the set.");
            row("session 0 1 0 *10; splice 9 0 1 8 0; " + name + " 0 = 1; " + name + " 9 = 512; " + name + " 10 = 768");
            row(FULL + name + " 29 = 536870912; " + name + " 0 = 1");
            row(twentyTakes() + name + " 19 = 524288; " + name + " 29 = 1023; " + name + " 28 = 1023");
            cite("Throws `IndexOutOfBoundsException` if there is no such TAPE");
            range(TWO, name + " #", 0, "1", 1, "2", "B");
            range(FULL, name + " #", 0, "1", 29, "536870912", "B");
        }
    }

    /** Twenty takes, ten of them joined one by one: the tape 28 has 10 spans, the tape 29 is a part of it. */
    private static String twentyTakes() {
        StringBuilder row = new StringBuilder("session 0 900 0 *20; splice 0 0 900 1 0; ");
        for (int take = 2; take <= 9; take++) {
            row.append("splice ").append(take).append(" 0 900 ").append(18 + take).append(" 0; ");
        }
        return row + "splice 28 899 8101 NONE 0; ";
    }

    private static void isLost() {
        promise(11);
        cite("Tells whether a TAKE is lost: no TAPE that is not GONE has a SPAN of it,");
        row("session 0 10 0; session 0 10 0; splice 0 9 10 NONE 1; isLost 0 = 0; isLost 1 = 0; fire 0; isLost 0 = 0; "
                + "isLost 1 = 1; shed 2; isLost 0 = 0; bake 2; isLost 0 = 0; pass 30; isLost 0 = 0; fire 1; "
                + "isLost 0 = 1; session 0 10 0; isLost 0 = 1; isLost 3 = 0");
        row("session 0 10 0; session 0 10 1; splice 0 0 1 1 2; splice 2 1 11 NONE 3; fire 0; isLost 0 = 0; fire 2; "
                + "isLost 0 = 1; isLost 1 = 0; fire 1; isLost 1 = 0; fire 3; isLost 1 = 1");
        cite("and no SIDE with one has a disc that is sold, and did not come back.");
        row("session 0 10 0; session 0 10 1; splice 1 0 1 0 0; add 2; cut 1; stamper 0 0 0; stamper 0 1 0; "
                + "stamper 0 1 1; fire 0; isLost 0 = 1; isLost 1 = 0; fire 1; isLost 1 = 1; press 0 1 1 9; "
                + "isLost 0 = 1; sell 0 1 1 2; isLost 0 = 0; isLost 1 = 0; back 0 1 1 1; isLost 0 = 0; back 0 1 1 1; "
                + "isLost 0 = 1; isLost 1 = 1; sell 0 1 1 1; disc 0 1 1; isLost 0 = 0");
        row("session 0 10 0; session 0 10 0; add 0; cut 1; add 1; cut 1; stamper 0 0 0; stamper 1 0 0; "
                + "press 0 0 0 1; press 1 0 0 1; fire 0; sell 1 0 0 1; isLost 0 = 1; isLost 1 = 0; sell 0 0 0 1; "
                + "isLost 0 = 0; back 1 0 0 1; isLost 1 = 1; isLost 0 = 0");
        cite("Throws `IndexOutOfBoundsException` if there is no such TAKE: no such TAPE, or it is a splice");
        range(TWO, "isLost #", 0, "0", 1, "0", "B");
        range(FULL, "isLost #", 0, "0", 29, "0", "B");
        row(TWO + "splice 0 0 10 NONE 0; isLost 2 = B; isLost 3 = B; session 0 1 0; isLost 3 = 0; fire 0; "
                + "isLost 2 = B; isLost 3 = 1");
    }
}
