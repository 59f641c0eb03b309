/** Promises 21 to 30: discs and files. */
public final class DiscsTest {
    public static void main(String[] args) {
        promise21Disc();
        promise21TwentyDiscs();
        promise22Play();
        promise23Scratch();
        promise24Noise();
        promise25Grade();
        promise26Join();
        promise26JoinThrows();
        promise27File();
        promise28Repair();
        promise29Undo();
        promise30FileIs();
        Due.end("DiscsTest");
    }

    /** Discs 0 and 1 of two stampers of the side 0, and the disc 2 of the side 1. */
    private static MatrixHouse withDiscs() {
        MatrixHouse x = SidesTest.withSide();
        x.add(0);
        x.cut(1);
        x.stamper(0, 0, 1);
        x.stamper(1, 0, 0);
        for (int i = 0; i < 3; i++) {
            x.press(i / 2, 0, i % 2, 9);
            x.sell(i / 2, 0, i % 2, 5);
            x.disc(i / 2, 0, i % 2);
        }
        return x;
    }

    private static void promise21Disc() {
        MatrixHouse x = SidesTest.withSide();
        Due.noSuch("side 1", () -> x.disc(1, 0, 0));
        Due.noSuch("side -1", () -> x.disc(-1, 0, 0));
        Due.noSuch("mother 3", () -> x.disc(0, 3, 0));
        Due.noSuch("number 4", () -> x.disc(0, 0, 4));
        Due.notNow("not made", () -> x.disc(0, 0, 1));
        Due.notNow("not pressed", () -> x.disc(0, 0, 0));
        x.press(0, 0, 0, 5);
        Due.notNow("not sold", () -> x.disc(0, 0, 0));
        x.sell(0, 0, 0, 2);
        Due.is("the first", 0, () -> x.disc(0, 0, 0));
        x.back(0, 0, 0, 1);
        Due.notNow("the other one came back", () -> x.disc(0, 0, 0));
        x.sell(0, 0, 0, 1);
        Due.is("one sold later", 1, () -> x.disc(0, 0, 0));
        Due.notNow("all are discs", () -> x.disc(0, 0, 0));
        Due.is("no wear at first", 0, () -> x.grade(1));
    }

    private static void promise21TwentyDiscs() {
        MatrixHouse x = SidesTest.withSide();
        x.press(0, 0, 0, 50);
        x.sell(0, 0, 0, 30);
        for (int i = 0; i < 20; i++) {
            int number = i;
            Due.is("disc", number, () -> x.disc(0, 0, 0));
        }
        Due.notNow("the 21st", () -> x.disc(0, 0, 0));
        Due.is("those 10 can come back", 20, () -> x.back(0, 0, 0, 10));
        Due.is("the lowest of all", 0, () -> x.join((1 << 20) - 1, 7));
        Due.is("the last one alone", 19, () -> x.join(1 << 19, 7));
        Due.outOfRange("a 21st in a set", () -> x.join(1 << 20, 7));
        Due.noSuch("disc 20", () -> x.noise(20, 7));
    }

    private static void promise22Play() {
        MatrixHouse x = withDiscs();
        Due.noSuch("disc 3", () -> x.play(3, 0, 0));
        Due.noSuch("disc -1", () -> x.play(-1, 1, 1));
        Due.outOfRange("needle 0", () -> x.play(0, 0, 1));
        Due.outOfRange("needle 4", () -> x.play(0, 4, 1));
        Due.outOfRange("times 0", () -> x.play(0, 1, 0));
        Due.outOfRange("times 51", () -> x.play(0, 1, 51));
        Due.is("once", 1, () -> x.play(0, 1, 1));
        Due.is("by the needle for each time", 151, () -> x.play(0, 3, 50));
        Due.is("another one", 14, () -> x.play(1, 2, 7));
    }

    private static void promise23Scratch() {
        MatrixHouse x = withDiscs();
        Due.noSuch("disc 3", () -> x.scratch(3, 0));
        Due.noSuch("disc -1", () -> x.scratch(-1, 0));
        Due.noSuch("part 8", () -> x.scratch(0, 8));
        Due.noSuch("part -1", () -> x.scratch(0, -1));
        Due.is("once", 5, () -> x.scratch(0, 3));
        Due.is("twice", 10, () -> x.scratch(0, 3));
        Due.is("another part", 5, () -> x.scratch(0, 7));
        x.play(0, 3, 5);
        Due.is("with the wear", 5 + 15 * 7 / 16, () -> x.scratch(0, 6));
        Due.is("another disc", 0, () -> x.noise(1, 3));
    }

    private static void promise24Noise() {
        MatrixHouse x = withDiscs();
        Due.noSuch("disc 3", () -> x.noise(3, 0));
        Due.noSuch("disc -1", () -> x.noise(-1, 0));
        Due.noSuch("part 8", () -> x.noise(0, 8));
        Due.noSuch("part -1", () -> x.noise(0, -1));
        Due.is("at first", 0, () -> x.noise(0, 7));
        x.play(0, 1, 15);
        x.scratch(0, 0);
        int[] wanted = {5, 1, 2, 3, 4, 5, 6, 7};
        for (int i = 0; i < 8; i++) {
            int part = i;
            Due.is("noise " + part, wanted[part], () -> x.noise(0, part));
        }
        x.play(0, 1, 1);
        Due.is("16 of wear", 6, () -> x.noise(0, 0));
        Due.is("16 of wear", 8, () -> x.noise(0, 7));
    }

    private static void promise25Grade() {
        MatrixHouse x = withDiscs();
        Due.noSuch("disc 3", () -> x.grade(3));
        Due.noSuch("disc -1", () -> x.grade(-1));
        Due.is("0", 0, () -> x.grade(0));
        x.play(0, 1, 1);
        Due.is("wear without noise", 0, () -> x.grade(0));
        x.play(0, 1, 1);
        Due.is("1 of noise", 1, () -> x.grade(0));
        int[] wanted = {1, 1, 1, 2};
        for (int i = 0; i < 4; i++) {
            int scratches = i;
            x.scratch(1, scratches);
            Due.is(5 * (scratches + 1) + " of noise", wanted[scratches], () -> x.grade(1));
        }
        for (int i = 5; i <= 41; i++) {
            int all = 5 * i;
            x.scratch(1, 0);
            Due.is(all + " of noise", all < 80 ? 2 : all < 200 ? 3 : 4, () -> x.grade(1));
        }
        x.scratch(2, 0);
        x.scratch(2, 0);
        x.scratch(2, 0);
        x.play(2, 1, 2);
        x.play(2, 1, 1);
        // 3 of wear: parts 5, 6 and 7 have 1 each
        Due.is("18 of noise", 1, () -> x.grade(2));
        x.play(2, 1, 1);
        // 4 of wear: parts 3 to 6 have 1 each, the part 7 has 2
        Due.is("21 of noise", 2, () -> x.grade(2));
        // 10 of wear: 0, 1, 1, 2, 3, 3, 4 and 5, together 19
        int[] scratches = {0, 12, 36};
        for (int i = 0; i < scratches.length; i++) {
            int grade = 1 + i;
            MatrixHouse y = withDiscs();
            y.play(0, 1, 10);
            for (int j = 0; j < scratches[i]; j++) {
                y.scratch(0, j % 8);
            }
            Due.is("19, 79 or 199 of noise", grade, () -> y.grade(0));
        }
    }

    private static void promise26Join() {
        MatrixHouse x = withDiscs();
        Due.is("of several the lowest one", 0, () -> x.join(3, 0));
        x.scratch(0, 2);
        Due.is("the least noise", 1, () -> x.join(3, 2));
        Due.is("another part", 0, () -> x.join(3, 3));
        x.scratch(1, 2);
        Due.is("the same again", 0, () -> x.join(3, 2));
        x.scratch(1, 2);
        Due.is("the least noise", 0, () -> x.join(3, 2));
        Due.is("one alone", 1, () -> x.join(2, 2));
        Due.is("one of the other side", 2, () -> x.join(4, 2));
        x.disc(0, 0, 0);
        x.scratch(0, 5);
        x.scratch(1, 5);
        Due.is("the third one", 3, () -> x.join(0b1011, 5));
        x.scratch(3, 5);
        Due.is("as they are now", 0, () -> x.join(0b1011, 5));
    }

    private static void promise26JoinThrows() {
        MatrixHouse x = withDiscs();
        Due.noSuch("part 8", () -> x.join(0, 8));
        Due.noSuch("part -1", () -> x.join(5, -1));
        Due.outOfRange("empty", () -> x.join(0, 0));
        Due.outOfRange("others", () -> x.join(8, 0));
        Due.outOfRange("others too", () -> x.join(9, 0));
        Due.outOfRange("others, and of two sides", () -> x.join(13, 0));
        Due.outOfRange("the highest bit", () -> x.join(Integer.MIN_VALUE | 1, 0));
        Due.outOfRange("all bits", () -> x.join(-1, 0));
        Due.notNow("two sides", () -> x.join(5, 0));
        Due.notNow("two sides", () -> x.join(7, 0));
    }

    private static void promise27File() {
        MatrixHouse x = withDiscs();
        Due.outOfRange("empty", () -> x.file(0));
        Due.outOfRange("others", () -> x.file(8));
        Due.outOfRange("all bits", () -> x.file(-1));
        Due.notNow("two sides", () -> x.file(6));
        Due.is("no file yet", MatrixHouse.NONE, () -> x.fileIs(0));
        x.play(0, 2, 8);
        x.scratch(1, 7);
        x.scratch(1, 7);
        Due.is("of two", 8, () -> x.file(3));
        int[] wanted = {0, 0, 0, 0, 0, 0, 0, 8};
        for (int i = 0; i < 8; i++) {
            int part = i;
            Due.is("fileIs " + part, wanted[part], () -> x.fileIs(part));
        }
        x.scratch(0, 7);
        Due.is("as it was then", 8, () -> x.fileIs(7));
        Due.notNow("two sides", () -> x.file(7));
        Due.outOfRange("empty", () -> x.file(0));
        Due.is("the file stays", 8, () -> x.fileIs(7));
        x.repair(7);
        Due.is("a new one", 10, () -> x.file(3));
        Due.is("in its place", 10, () -> x.fileIs(7));
        Due.notNow("without repairs", () -> x.undo());
        Due.is("of one alone", 41, () -> x.file(1));
        Due.is("of one alone", 13, () -> x.fileIs(7));
    }

    private static void promise28Repair() {
        MatrixHouse x = withDiscs();
        Due.noSuch("part 8, no file", () -> x.repair(8));
        Due.noSuch("part -1, no file", () -> x.repair(-1));
        Due.notNow("no file", () -> x.repair(0));
        x.scratch(0, 4);
        x.file(1);
        Due.is("5 halved", 2, () -> x.repair(4));
        Due.is("2 halved", 1, () -> x.repair(4));
        Due.is("1 halved", 0, () -> x.repair(4));
        Due.is("another part", 0, () -> x.repair(5));
        Due.is("the disc stays", 5, () -> x.noise(0, 4));
        for (int i = 0; i < 16; i++) {
            Due.is("0 halved", 0, () -> x.repair(0));
        }
        Due.notNow("the 21st", () -> x.repair(0));
        Due.is("undo one", 0, () -> x.undo());
        Due.is("the 20th again", 0, () -> x.repair(7));
        Due.notNow("the 21st again", () -> x.repair(7));
        Due.noSuch("part 8, all repairs", () -> x.repair(8));
        x.file(1);
        Due.is("a new file", 2, () -> x.repair(4));
    }

    private static void promise29Undo() {
        MatrixHouse x = withDiscs();
        Due.notNow("no file", () -> x.undo());
        x.scratch(0, 4);
        x.scratch(0, 6);
        x.file(1);
        Due.notNow("no repair", () -> x.undo());
        x.repair(4);
        x.repair(6);
        x.repair(4);
        Due.is("the latest", 4, () -> x.undo());
        Due.is("what it was ahead of it", 2, () -> x.fileIs(4));
        Due.is("the one ahead", 6, () -> x.undo());
        Due.is("what it was ahead of it", 5, () -> x.fileIs(6));
        Due.is("another repair", 1, () -> x.repair(4));
        Due.is("undone", 4, () -> x.undo());
        Due.is("the first one", 4, () -> x.undo());
        Due.is("as it was", 5, () -> x.fileIs(4));
        Due.notNow("none is left", () -> x.undo());
    }

    private static void promise30FileIs() {
        MatrixHouse x = withDiscs();
        Due.noSuch("part 8", () -> x.fileIs(8));
        Due.noSuch("part -1", () -> x.fileIs(-1));
        Due.is("empty", MatrixHouse.NONE, () -> x.fileIs(7));
        x.scratch(0, 7);
        x.file(1);
        Due.is("part 7", 5, () -> x.fileIs(7));
        Due.is("part 0", 0, () -> x.fileIs(0));
        Due.noSuch("part 8", () -> x.fileIs(8));
    }
}
