/** Promises 12 to 20: sides and pressings. */
public final class SidesTest {
    public static void main(String[] args) {
        promise12Add();
        promise13Clear();
        promise14Cut();
        promise14CutLengths();
        promise14CutThrows();
        promise15Seconds();
        promise16Stamper();
        promise17Press();
        promise18StamperIs();
        promise19Sell();
        promise19HundredSales();
        promise20Back();
        Due.end("SidesTest");
    }

    /** A side 0 of 300 seconds of the artist 0 and 100 of the artist 1, with the stamper 0 of the mother 0. */
    static MatrixHouse withSide() {
        MatrixHouse x = new MatrixHouse();
        x.session(0, 300, 0);
        x.session(1, 100, 0);
        x.add(0);
        x.add(1);
        x.cut(1);
        x.stamper(0, 0, 0);
        return x;
    }

    private static void promise12Add() {
        MatrixHouse x = new MatrixHouse();
        Due.noSuch("no tape", () -> x.add(0));
        Due.noSuch("tape -1", () -> x.add(-1));
        x.session(0, 10, 0);
        x.session(0, 10, 1);
        x.shed(1);
        Due.notNow("it sheds", () -> x.add(1));
        x.bake(1);
        Due.is("baked", 1, () -> x.add(1));
        for (int i = 2; i <= 6; i++) {
            int count = i;
            Due.is("the same one again", count, () -> x.add(0));
        }
        Due.notNow("the 7th", () -> x.add(0));
        Due.noSuch("no tape, and full", () -> x.add(2));
        Due.is("still 6", 6, () -> x.clear());
        x.pass(30);
        Due.notNow("baked too long ago", () -> x.add(1));
        x.fire(0);
        Due.notNow("gone", () -> x.add(0));
    }

    private static void promise13Clear() {
        MatrixHouse x = new MatrixHouse();
        Due.is("empty", 0, () -> x.clear());
        x.session(0, 10, 0);
        x.add(0);
        x.add(0);
        Due.is("two", 2, () -> x.clear());
        Due.is("none", 0, () -> x.clear());
        Due.is("from the start", 1, () -> x.add(0));
        x.cut(1);
        Due.is("the side has one", 10, () -> x.seconds(0, MatrixHouse.NONE));
    }

    private static void promise14Cut() {
        MatrixHouse x = new MatrixHouse();
        x.session(0, 10, 0);
        for (int i = 0; i < 10; i++) {
            int number = i;
            x.add(0);
            Due.is("cut", number, () -> x.cut(1 + number % 5));
            Due.is("the program is empty then", 0, () -> x.clear());
        }
        x.add(0);
        Due.notNow("the 11th", () -> x.cut(1));
        Due.is("the program stays", 1, () -> x.clear());
        Due.is("the last side", 10, () -> x.seconds(9, 0));
        Due.noSuch("no side 10", () -> x.seconds(10, 0));
        Due.noSuch("its matrix is there, no stamper is", () -> x.stamperIs(10, 0, 0, 0));
        Due.is("its matrix is there, no stamper is", MatrixHouse.NONE, () -> x.stamperIs(9, 2, 3, 0));
    }

    private static void promise14CutLengths() {
        for (int level = 1; level <= 5; level++) {
            int at = level;
            int most = 1500 - 150 * level;
            MatrixHouse x = new MatrixHouse();
            x.session(0, most / 2, 0);
            x.session(1, most / 2 - 7, 0);
            x.session(2, 1, 0);
            x.session(3, most / 2 - 6, 0);
            x.add(0);
            x.add(2);
            x.add(1);
            Due.is("just as long as it may be at " + level, 0, () -> x.cut(at));
            Due.is("without what is between", most - 6, () -> x.seconds(0, MatrixHouse.NONE));
            x.add(0);
            x.add(2);
            x.add(3);
            Due.notNow("a second longer at " + level, () -> x.cut(at));
            Due.is("the program stays", 3, () -> x.clear());
        }
        MatrixHouse x = new MatrixHouse();
        x.session(0, 900, 0);
        x.add(0);
        Due.notNow("one tape, too loud", () -> x.cut(5));
        Due.is("one tape, nothing between", 0, () -> x.cut(4));
    }

    private static void promise14CutThrows() {
        MatrixHouse x = new MatrixHouse();
        Due.outOfRange("level 0", () -> x.cut(0));
        Due.outOfRange("level 6", () -> x.cut(6));
        Due.outOfRange("level far below", () -> x.cut(Integer.MIN_VALUE));
        Due.notNow("empty", () -> x.cut(1));
        x.session(0, 10, 0);
        x.session(0, 10, 1);
        x.add(0);
        x.add(1);
        x.shed(1);
        Due.notNow("one sheds", () -> x.cut(1));
        Due.outOfRange("level ahead of the state", () -> x.cut(6));
        x.bake(1);
        x.pass(30);
        Due.notNow("baked too long ago", () -> x.cut(1));
        Due.is("the program stays", 2, () -> x.clear());
        x.add(0);
        x.fire(0);
        Due.notNow("gone", () -> x.cut(1));
    }

    private static void promise15Seconds() {
        MatrixHouse x = new MatrixHouse();
        x.session(0, 30, 0);
        x.session(5, 20, 0);
        x.session(0, 7, 0);
        x.splice(0, 10, 15, 1, 0);
        x.add(3);
        x.add(2);
        x.add(3);
        x.cut(2);
        Due.is("all", 57, () -> x.seconds(0, MatrixHouse.NONE));
        Due.is("artist 0", 17, () -> x.seconds(0, 0));
        Due.is("artist 5", 40, () -> x.seconds(0, 5));
        Due.is("artist 1", 0, () -> x.seconds(0, 1));
        Due.noSuch("artist 6", () -> x.seconds(0, 6));
        Due.noSuch("artist -2", () -> x.seconds(0, -2));
        Due.noSuch("side 1", () -> x.seconds(1, 0));
        Due.noSuch("side -1", () -> x.seconds(-1, MatrixHouse.NONE));
        x.fire(0);
        Due.is("after a fire", 57, () -> x.seconds(0, MatrixHouse.NONE));
    }

    private static void promise16Stamper() {
        MatrixHouse x = new MatrixHouse();
        x.session(0, 10, 0);
        x.add(0);
        x.cut(1);
        x.add(0);
        x.cut(1);
        Due.noSuch("side 2", () -> x.stamper(2, 0, 0));
        Due.noSuch("side -1", () -> x.stamper(-1, 0, 0));
        Due.noSuch("mother 3", () -> x.stamper(0, 3, 0));
        Due.noSuch("mother -1", () -> x.stamper(0, -1, 0));
        Due.noSuch("number 4", () -> x.stamper(0, 0, 4));
        Due.noSuch("number -1", () -> x.stamper(0, 1, -1));
        Due.notNow("number 1 ahead of 0", () -> x.stamper(0, 0, 1));
        Due.notNow("mother 1 ahead of 0", () -> x.stamper(0, 1, 0));
        Due.is("0 0", 1, () -> x.stamper(0, 0, 0));
        Due.notNow("made", () -> x.stamper(0, 0, 0));
        Due.notNow("number 2 ahead of 1", () -> x.stamper(0, 0, 2));
        Due.notNow("mother 2 ahead of 1", () -> x.stamper(0, 2, 0));
        Due.notNow("another side", () -> x.stamper(1, 0, 1));
        Due.is("1 0", 2, () -> x.stamper(0, 1, 0));
        Due.notNow("1 2", () -> x.stamper(0, 1, 2));
        Due.is("1 1", 3, () -> x.stamper(0, 1, 1));
        Due.is("2 0", 4, () -> x.stamper(0, 2, 0));
        Due.is("0 1", 5, () -> x.stamper(0, 0, 1));
        Due.is("0 2", 6, () -> x.stamper(0, 0, 2));
        Due.is("0 3", 7, () -> x.stamper(0, 0, 3));
        Due.notNow("2 2", () -> x.stamper(0, 2, 2));
        Due.is("2 1", 8, () -> x.stamper(0, 2, 1));
        Due.is("2 2", 9, () -> x.stamper(0, 2, 2));
        Due.is("2 3", 10, () -> x.stamper(0, 2, 3));
        Due.is("1 2", 11, () -> x.stamper(0, 1, 2));
        Due.is("1 3", 12, () -> x.stamper(0, 1, 3));
        Due.notNow("made", () -> x.stamper(0, 1, 3));
        Due.is("another side", 1, () -> x.stamper(1, 0, 0));
    }

    private static void promise17Press() {
        MatrixHouse x = withSide();
        Due.noSuch("side 1", () -> x.press(1, 0, 0, 0));
        Due.noSuch("mother 3", () -> x.press(0, 3, 0, 0));
        Due.noSuch("number 4", () -> x.press(0, 0, 4, 0));
        Due.noSuch("mother -1", () -> x.press(0, -1, 3, 1));
        Due.outOfRange("none", () -> x.press(0, 0, 0, 0));
        Due.outOfRange("501", () -> x.press(0, 0, 0, 501));
        Due.outOfRange("far", () -> x.press(0, 0, 0, Integer.MAX_VALUE));
        Due.outOfRange("range ahead of the state", () -> x.press(0, 0, 1, 0));
        Due.notNow("not made", () -> x.press(0, 0, 1, 1));
        Due.is("1", 1, () -> x.press(0, 0, 0, 1));
        Due.is("499 more", 500, () -> x.press(0, 0, 0, 499));
        Due.notNow("the 501st", () -> x.press(0, 0, 0, 1));
        x.stamper(0, 0, 1);
        Due.is("another one", 500, () -> x.press(0, 0, 1, 500));
        x.stamper(0, 1, 0);
        x.press(0, 1, 0, 2);
        Due.notNow("500 more", () -> x.press(0, 1, 0, 499));
        Due.is("nothing was pressed", 2, () -> x.stamperIs(0, 1, 0, 1));
    }

    private static void promise18StamperIs() {
        MatrixHouse x = withSide();
        x.pass(3);
        x.stamper(0, 0, 1);
        int[] unmade = {MatrixHouse.NONE, 0, 0, MatrixHouse.NONE, MatrixHouse.NONE};
        int[] made = {3, 0, 0, MatrixHouse.NONE, MatrixHouse.NONE};
        for (int i = 0; i < 5; i++) {
            int what = i;
            Due.is("not made " + what, unmade[what], () -> x.stamperIs(0, 2, 3, what));
            Due.is("made " + what, made[what], () -> x.stamperIs(0, 0, 1, what));
        }
        x.pass(1);
        x.press(0, 0, 1, 10);
        x.pass(1);
        x.press(0, 0, 1, 5);
        x.pass(1);
        x.sell(0, 0, 1, 9);
        x.back(0, 0, 1, 2);
        int[] used = {3, 15, 7, 4, 5};
        for (int i = 0; i < 5; i++) {
            int what = i;
            Due.is("used " + what, used[what], () -> x.stamperIs(0, 0, 1, what));
        }
        Due.is("made on day 0", 0, () -> x.stamperIs(0, 0, 0, 0));
        Due.outOfRange("what 5", () -> x.stamperIs(0, 0, 1, 5));
        Due.outOfRange("what -1", () -> x.stamperIs(0, 0, 1, -1));
        Due.outOfRange("what 5, not made", () -> x.stamperIs(0, 2, 3, 5));
        Due.noSuch("side 1", () -> x.stamperIs(1, 0, 0, 5));
        Due.noSuch("mother 3", () -> x.stamperIs(0, 3, 0, 5));
        Due.noSuch("number 4", () -> x.stamperIs(0, 0, 4, 0));
        Due.noSuch("number -1", () -> x.stamperIs(0, 1, -1, 0));
    }

    private static void promise19Sell() {
        MatrixHouse x = withSide();
        Due.noSuch("side 1", () -> x.sell(1, 0, 0, 0));
        Due.noSuch("mother 3", () -> x.sell(0, 3, 0, 0));
        Due.noSuch("number 4", () -> x.sell(0, 0, 4, 0));
        Due.outOfRange("none", () -> x.sell(0, 0, 0, 0));
        Due.outOfRange("501", () -> x.sell(0, 0, 0, 501));
        Due.outOfRange("range ahead of the state", () -> x.sell(0, 0, 1, 0));
        Due.notNow("not made", () -> x.sell(0, 0, 1, 1));
        Due.notNow("nothing is pressed", () -> x.sell(0, 0, 0, 1));
        x.press(0, 0, 0, 10);
        Due.notNow("11 of 10", () -> x.sell(0, 0, 0, 11));
        Due.is("4", 4, () -> x.sell(0, 0, 0, 4));
        Due.is("3 more", 7, () -> x.sell(0, 0, 0, 3));
        Due.is("5 come back", 2, () -> x.back(0, 0, 0, 5));
        Due.notNow("those are not sold again", () -> x.sell(0, 0, 0, 4));
        Due.is("the rest", 5, () -> x.sell(0, 0, 0, 3));
        Due.notNow("no more", () -> x.sell(0, 0, 0, 1));
        x.press(0, 0, 0, 1);
        Due.is("one pressed later", 6, () -> x.sell(0, 0, 0, 1));
        x.stamper(0, 0, 1);
        x.press(0, 0, 1, 500);
        Due.is("of another stamper", 500, () -> x.sell(0, 0, 1, 500));
    }

    private static void promise19HundredSales() {
        MatrixHouse x = withSide();
        x.stamper(0, 0, 1);
        x.press(0, 0, 0, 500);
        x.press(0, 0, 1, 500);
        for (int i = 0; i < 50; i++) {
            int sold = i;
            Due.is("sell", 2, () -> x.sell(0, 0, 0, 2));
            Due.is("back", 0, () -> x.back(0, 0, 0, 2));
            Due.is("sell of another", sold + 1, () -> x.sell(0, 0, 1, 1));
        }
        Due.notNow("the 101st", () -> x.sell(0, 0, 0, 1));
        Due.notNow("the 101st of another", () -> x.sell(0, 0, 1, 1));
        Due.is("back is possible still", 0, () -> x.back(0, 0, 1, 50));
        Due.notNow("those that came back count", () -> x.sell(0, 0, 1, 1));
    }

    private static void promise20Back() {
        MatrixHouse x = withSide();
        Due.noSuch("side 1", () -> x.back(1, 0, 0, 0));
        Due.noSuch("mother 3", () -> x.back(0, 3, 0, 0));
        Due.noSuch("number 4", () -> x.back(0, 0, 4, 0));
        Due.outOfRange("none", () -> x.back(0, 0, 0, 0));
        Due.outOfRange("501", () -> x.back(0, 0, 0, 501));
        Due.outOfRange("range ahead of the state", () -> x.back(0, 0, 1, 501));
        Due.notNow("not made", () -> x.back(0, 0, 1, 1));
        x.press(0, 0, 0, 20);
        Due.notNow("none is sold", () -> x.back(0, 0, 0, 1));
        x.sell(0, 0, 0, 6);
        x.sell(0, 0, 0, 4);
        Due.notNow("11 of 10", () -> x.back(0, 0, 0, 11));
        x.disc(0, 0, 0);
        x.disc(0, 0, 0);
        Due.notNow("two are discs", () -> x.back(0, 0, 0, 9));
        Due.is("over both sales", 2, () -> x.back(0, 0, 0, 8));
        Due.notNow("the discs stay", () -> x.back(0, 0, 0, 1));
        Due.is("sold and did not come back", 2, () -> x.stamperIs(0, 0, 0, 2));
        Due.is("pressed still", 20, () -> x.stamperIs(0, 0, 0, 1));
        x.sell(0, 0, 0, 1);
        Due.is("of a later sale", 2, () -> x.back(0, 0, 0, 1));
    }
}
