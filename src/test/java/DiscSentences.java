/** The sentences of the promises 21 to 30: discs and files. */
final class DiscSentences extends Sentences {
    private static final String TWENTY = PRESSED + "sell 0 0 0 30; disc 0 0 0 *20; ";
    /** The disc 0 has 7 scratches in the part 0, 3 in the part 7, and the file is of it alone. */
    private static final String FILE = DISCS + "scratch 0 0 *7; scratch 0 7 *3; file 1; ";

    static void run() {
        disc();
        play();
        scratchAndNoise();
        grade();
        join();
        file();
        repair();
        undo();
        fileIs();
    }

    private static void disc() {
        promise(21);
        cite("Names a DISC.");
        row(STAMPER + "press 0 0 0 9; sell 0 0 0 3; disc 0 0 0; grade 0 = 0; noise 0 7 = 0; play 0 1 1 = 1; "
                + "stamperIs 0 0 0 2 = 3; stamperIs 0 0 0 1 = 9; back 0 0 0 3 = S; back 0 0 0 2 = 1");
        cite("Returns its number.");
        row(DISCS + "disc 1 0 0 = 3; disc 0 0 0 = 4; disc 0 0 1 = 5; noise 5 0 = 0; noise 6 0 = B");
        cite("Throws `IndexOutOfBoundsException` if there is no such SIDE; or mother or number is out of range");
        range(DISCS, "disc # 0 0", 0, "3", 1, "3", "B");
        range(DISCS + "stamper 0 1 0; stamper 0 2 0; press 0 2 0 1; sell 0 2 0 1; ", "disc 0 # 0", 0, "3", 2, "3", "B");
        range(DISCS + "stamper 0 0 2; stamper 0 0 3; press 0 0 3 1; sell 0 0 3 1; ", "disc 0 0 #", 0, "3", 3, "3", "B");
        each(DISCS, "B", "disc 0 1 4", "disc 0 1 -1", "disc 0 -1 4", "disc 2 0 0", "disc 10 0 0");
        each(TWENTY, "B", "disc 1 0 0", "disc 0 3 0", "disc 0 0 4", "disc -1 0 0");
        each("", "B", "disc 0 0 0");
        cite("Throws `IllegalStateException` if all that are sold and did not come back are DISCS,");
        row(SIDE + "disc 0 0 0 = S; stamper 0 0 0; disc 0 0 0 = S; press 0 0 0 9; disc 0 0 0 = S; sell 0 0 0 2; "
                + "disc 0 0 0 = 0; disc 0 0 0 = 1; disc 0 0 0 = S; sell 0 0 0 3; back 0 0 0 2; disc 0 0 0 = 2; "
                + "disc 0 0 0 = S; disc 0 2 3 = S; press 0 0 0 1; disc 0 0 0 = S; sell 0 0 0 1; disc 0 0 0 = 3");
        row(STAMPER + "press 0 0 0 9; sell 0 0 0 9; back 0 0 0 9; disc 0 0 0 = S; grade 0 = B");
        cite("or there are 20");
        row(PRESSED + "stamper 0 0 1; press 0 0 1 9; sell 0 0 1 9; sell 0 0 0 30; disc 0 0 0 *19; disc 0 0 1 = 19; "
                + "disc 0 0 0 = S; disc 0 0 1 = S; grade 19 = 0; grade 20 = B; back 0 0 1 9 = S; back 0 0 1 8 = 1; "
                + "back 0 0 0 11 = 19; disc 0 0 0 = S");
    }

    private static void play() {
        promise(22);
        cite("Plays a DISC.");
        row(DISCS + "play 0 3 8; noise 0 0 = 1; noise 0 7 = 12; noise 1 7 = 0; noise 2 7 = 0; play 1 1 2; noise 1 7 = 1; "
                + "noise 0 7 = 12");
        cite("`needle`: 1 to 3");
        range(DISCS, "play 0 # 2", 1, "2", 3, "6", "A");
        row(DISCS + "play 0 1 1 = 1; play 0 2 1 = 3; play 0 3 1 = 6");
        cite("`times`: 1 to 50");
        range(DISCS, "play 0 3 #", 1, "3", 50, "150", "A");
        cite("Returns its WEAR.");
        row(DISCS + "play 0 3 50 = 150; play 0 1 1 = 151; play 1 2 5 = 10; play 0 2 7 = 165; scratch 0 0; "
                + "play 0 1 1 = 166; play 0 3 50 *100 = 15166");
        cite("Throws `IndexOutOfBoundsException` if there is no such DISC");
        range(DISCS, "play # 2 3", 0, "6", 2, "6", "B");
        range(TWENTY, "play # 2 3", 0, "6", 19, "6", "B");
        each(DISCS, "B", "play 3 0 1", "play 3 1 51", "play -1 4 0", "play 20 MAX MIN");
        cite("Throws `IllegalArgumentException` if needle or times is out of range");
        each(DISCS, "A", "play 0 0 1", "play 0 4 1", "play 0 1 0", "play 0 1 51", "play 0 0 0", "play 0 4 51",
                "play 0 -1 -1", "play 2 MAX 1", "play 2 1 MAX", "play 0 MIN 2", "play 0 2 MIN");
    }

    private static void scratchAndNoise() {
        promise(23);
        cite("Scratches a DISC once.");
        row(DISCS + "scratch 1 4; noise 1 4 = 5; noise 1 3 = 0; noise 1 5 = 0; noise 0 4 = 0; noise 2 4 = 0; "
                + "scratch 1 4; noise 1 4 = 10; play 1 1 1 = 1");
        cite("Returns the NOISE of the PART.");
        row(DISCS + "scratch 0 0 = 5; scratch 0 0 = 10; scratch 0 7 = 5; play 0 3 5; scratch 0 6 = 11; scratch 0 0 = 15; "
                + "scratch 0 7 = 17; scratch 1 7 = 5");
        cite("Throws `IndexOutOfBoundsException` if there is no such DISC or PART");
        range(DISCS, "scratch # 7", 0, "5", 2, "5", "B");
        range(DISCS, "scratch 2 #", 0, "5", 7, "5", "B");
        range(TWENTY, "scratch # 0", 0, "5", 19, "5", "B");
        each(DISCS, "B", "scratch 3 8", "scratch -1 -1");
        promise(24);
        cite("Returns the NOISE of a PART of a DISC.");
        int[] of31 = {1, 3, 5, 7, 9, 11, 13, 15};
        for (int part = 0; part <= 7; part++) {
            row(DISCS + "noise 0 " + part + " = 0; play 0 1 31; noise 0 " + part + " = " + of31[part] + "; scratch 0 "
                    + part + "; noise 0 " + part + " = " + (of31[part] + 5) + "; play 0 1 1; noise 0 " + part + " = "
                    + (2 * part + 7) + "; noise 1 " + part + " = 0");
        }
        row(DISCS + "play 0 3 50 *200; noise 0 0 = 1875; noise 0 7 = 15000; scratch 0 0 *200; noise 0 0 = 2875");
        cite("Throws `IndexOutOfBoundsException` if there is no such DISC or PART");
        range(DISCS + "scratch 0 6; scratch 2 6; ", "noise # 6", 0, "5", 2, "5", "B");
        range(DISCS + "scratch 2 0; scratch 2 7; ", "noise 2 #", 0, "5", 7, "5", "B");
        range(TWENTY, "noise # 0", 0, "0", 19, "0", "B");
        each(DISCS, "B", "noise 3 8", "noise -1 -1");
        each("", "B", "noise 0 0");
    }

    private static void grade() {
        promise(25);
        cite("Returns the GRADE of a DISC.");
        row(DISCS + "grade 0 = 0; grade 1 = 0; scratch 1 5; grade 1 = 1; grade 0 = 0; grade 2 = 0");
        // wear 2 has 1 of noise in all, 10 has 19, and each scratch 5 more
        row(DISCS + "play 0 1 1; grade 0 = 0; play 0 1 1; grade 0 = 1; play 0 1 8; grade 0 = 1; play 0 1 1; "
                + "grade 0 = 2");
        row(DISCS + "scratch 0 0 *4; grade 0 = 2; scratch 1 0 *3; grade 1 = 1; play 1 1 2; grade 1 = 1");
        row(DISCS + "play 0 1 10; scratch 0 3 *12; grade 0 = 2; scratch 1 3 *16; grade 1 = 3; scratch 2 3 *15; "
                + "grade 2 = 2");
        row(DISCS + "play 0 1 10; scratch 0 7 *36; grade 0 = 3; scratch 1 7 *40; grade 1 = 4; scratch 2 0 *39; "
                + "grade 2 = 3");
        row(DISCS + "play 0 3 50 *20; grade 0 = 4; scratch 0 0; grade 0 = 4");
        cite("Throws `IndexOutOfBoundsException` if there is no such DISC");
        range(DISCS + "scratch 0 0; scratch 2 0; ", "grade #", 0, "1", 2, "1", "B");
        range(TWENTY, "grade #", 0, "0", 19, "0", "B");
        each("", "B", "grade 0");
    }

    private static void join() {
        promise(26);
        cite("Returns which DISC a JOIN takes for a PART.");
        for (int part = 0; part <= 7; part++) {
            String noisy = DISCS + "disc 0 0 0; scratch 0 " + part + " *2; scratch 1 " + part + "; ";
            row(noisy + "join 3 " + part + " = 1; join 1 " + part + " = 0; join 11 " + part + " = 3; join 9 " + part
                    + " = 3; join 10 " + part + " = 3; join 4 " + part + " = 2; join 11 " + (part + 1) % 8
                    + " = 0; scratch 3 " + part + "; join 11 " + part + " = 1; scratch 3 " + part + "; join 9 "
                    + part + " = 0");
        }
        cite("`discs`: a set of DISCS that there are, not empty");
        range(TWENTY, "join # 0", 1, "0", (1 << 20) - 1, "0", "A");
        row(TWENTY + "scratch 0 0; join ALL20 0 = 1; join 524289 0 = 19; join 524288 7 = 19; join 1048576 0 = A; "
                + "join 1048577 0 = A; join MIN 0 = A; join -1 0 = A");
        cite("Throws `IndexOutOfBoundsException` if there is no such PART");
        range(DISCS, "join 3 #", 0, "0", 7, "0", "B");
        each(DISCS, "B", "join 0 8", "join 0 -1", "join 8 8", "join 5 8", "join 5 -1", "join -1 MAX", "join 13 MIN");
        each("", "B", "join 0 8", "join 1 -1");
        cite("Throws `IllegalArgumentException` if discs is empty, or has others");
        each(DISCS, "A", "join 0 0", "join 8 0", "join 9 7", "join 12 0", "join 13 0", "join 15 0", "join -1 0",
                "join MIN 0", "join -2147483647 0", "join MAX 7", "join 1048576 0", "join 16 0");
        each("", "A", "join 0 0", "join 1 0", "join -1 7");
        cite("Throws `IllegalStateException` if they are not all of one SIDE");
        each(DISCS, "S", "join 5 0", "join 6 7", "join 7 3");
        row(DISCS + "disc 1 0 0; disc 0 0 0; join 12 0 = 2; join 19 0 = 0; join 28 0 = S; join 9 0 = S; join 24 0 = S; "
                + "join 31 0 = S");
    }

    private static void file() {
        promise(27);
        cite("Makes the FILE of a JOIN, in place of the one that there is.");
        StringBuilder scratches = new StringBuilder(DISCS);
        StringBuilder asks = new StringBuilder();
        for (int part = 0; part <= 7; part++) {
            // the disc 0 has one more than its part, the disc 1 as many the other way round
            scratches.append("scratch 0 ").append(part).append(" *").append(part + 1).append("; ");
            scratches.append("scratch 1 ").append(part).append(" *").append(8 - part).append("; ");
            asks.append("fileIs ").append(part).append(" = ").append(5 * Math.min(part + 1, 8 - part)).append("; ");
        }
        row(scratches + "file 3 = 100; " + asks + "repair 0; file 3 = 100; " + asks + "file 1 = 180; fileIs 0 = 5; "
                + "fileIs 7 = 40; file 2 = 180; fileIs 0 = 40; fileIs 7 = 5; file 4 = 0; fileIs 0 = 0; fileIs 7 = 0");
        row(scratches + "file 3; scratch 0 0; play 1 3 50; " + asks + "noise 0 0 = 10");
        cite("`discs`: a set of DISCS that there are, not empty");
        range(TWENTY + "play 1 1 2; ", "file #", 1, "0", (1 << 20) - 1, "0", "A");
        row(TWENTY + "play 19 1 2; file 524288 = 1; file 524289 = 0; file 1048576 = A; file 1048577 = A");
        cite("Returns the NOISE of all PARTS, together.");
        row(DISCS + "file 1 = 0; play 0 1 2; file 1 = 1; play 0 1 8; file 1 = 19; file 3 = 0; scratch 0 0; file 1 = 24; "
                + "scratch 1 7 *3; file 3 = 5; file 2 = 15");
        cite("Throws `IllegalArgumentException` if discs is empty, or has others");
        each(DISCS, "A", "file 0", "file 8", "file 9", "file 12", "file 13", "file 15", "file -1", "file MIN",
                "file -2147483647", "file MAX", "file 16");
        each(FILE + "repair 0; ", "A", "file 0", "file 8", "file 13", "file -1");
        each("", "A", "file 0", "file 1");
        cite("Throws `IllegalStateException` if they are not all of one SIDE");
        each(DISCS, "S", "file 5", "file 6", "file 7");
        row(FILE + "repair 0; file 5 = S; fileIs 0 = 17; undo = 0; fileIs 0 = 35; fileIs 7 = 15");
    }

    private static void repair() {
        promise(28);
        cite("Repairs a PART of the FILE.");
        row(FILE + "repair 0; fileIs 0 = 17; fileIs 7 = 15; fileIs 1 = 0; noise 0 0 = 35; repair 7; fileIs 7 = 7; "
                + "fileIs 0 = 17");
        cite("Returns its NOISE then.");
        row(FILE + "repair 0 = 17; repair 0 = 8; repair 7 = 7; repair 0 = 4; repair 0 = 2; repair 0 = 1; repair 0 = 0; "
                + "repair 0 = 0; repair 3 = 0; repair 7 = 3");
        cite("Throws `IndexOutOfBoundsException` if there is no such PART");
        range(FILE, "repair #", 0, "17", 7, "7", "B");
        each("", "B", "repair 8", "repair -1");
        each(FILE + "repair 3 *20; ", "B", "repair 8", "repair -1");
        cite("Throws `IllegalStateException` if the FILE is empty,");
        each("", "S", "repair 0", "repair 7");
        each(DISCS + "scratch 0 0; ", "S", "repair 0", "repair 7");
        cite("or has 20 repairs that were not undone");
        row(FILE + "repair 0 = 17; repair 3 *18; repair 7 = 7; repair 7 = S; repair 0 = S; fileIs 7 = 7; fileIs 0 = 17; "
                + "undo = 7; repair 0 = 8; repair 0 = S; undo = 0; undo = 3; repair 7 = 7; repair 7 = 3; repair 7 = S; "
                + "file 1; repair 7 *20 = 0; repair 7 = S");
        row(FILE + "repair 0; undo; ".repeat(30) + "repair 7 *20 = 0; repair 7 = S; undo *20 = 7; undo = S; fileIs 7 = 15; "
                + "fileIs 0 = 35");
    }

    private static void undo() {
        promise(29);
        cite("Undoes the latest repair.");
        row(FILE + "repair 0; repair 0; repair 7; undo; fileIs 7 = 15; fileIs 0 = 8; undo; fileIs 0 = 17; repair 7; undo; "
                + "fileIs 7 = 15; fileIs 0 = 17; undo; fileIs 0 = 35; fileIs 7 = 15; noise 0 0 = 35");
        row(DISCS + "scratch 0 0; play 0 1 16; file 1; repair 0 = 3; repair 0 = 1; undo; fileIs 0 = 3; undo; "
                + "fileIs 0 = 6");
        row(FILE + "repair 0 *20; undo *20 = 0; fileIs 0 = 35; undo = S");
        cite("Returns the PART.");
        row(FILE + "repair 0; repair 1; repair 2; repair 3; repair 4; repair 5; repair 6; repair 7; undo = 7; undo = 6; "
                + "undo = 5; undo = 4; undo = 3; undo = 2; undo = 1; undo = 0; undo = S");
        cite("Throws `IllegalStateException` if there is none");
        each("", "S", "undo");
        each(DISCS, "S", "undo");
        row(FILE + "undo = S; repair 0; undo = 0; undo = S; repair 0; file 1; undo = S; fileIs 0 = 35; repair 0; "
                + "file 2; undo = S; fileIs 0 = 0");
    }

    private static void fileIs() {
        promise(30);
        cite("Returns the NOISE of a PART of the FILE.");
        row(FILE + "fileIs 0 = 35; fileIs 7 = 15; fileIs 1 = 0; fileIs 6 = 0; scratch 0 0; fileIs 0 = 35; repair 0; "
                + "fileIs 0 = 17; undo; fileIs 0 = 35; file 2; fileIs 0 = 0");
        cite("Returns the NOISE; NONE if the FILE is empty.");
        for (int part = 0; part <= 7; part++) {
            row("fileIs " + part + " = NONE");
            row(DISCS + "scratch 0 " + part + "; fileIs " + part + " = NONE; file 5 = S; fileIs " + part
                    + " = NONE; file 0 = A; fileIs " + part + " = NONE; file 2; fileIs " + part + " = 0");
        }
        cite("Throws `IndexOutOfBoundsException` if there is no such PART");
        range(FILE, "fileIs #", 0, "35", 7, "15", "B");
        range("", "fileIs #", 0, "-1", 7, "-1", "B");
    }
}
