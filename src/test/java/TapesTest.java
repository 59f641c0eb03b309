/** Promises 1 to 11: tapes. */
public final class TapesTest {
    public static void main(String[] args) {
        promise1NewObject();
        promise2Session();
        promise3Splice();
        promise3SpliceThrows();
        promise3SpanLimit();
        promise4Shed();
        promise5Bake();
        promise6Fire();
        promise7TapeIs();
        promise8Heard();
        promise9And10Takes();
        promise10LongTape();
        promise11IsLostByTapes();
        promise11IsLostBySides();
        Due.end("TapesTest");
    }

    private static void promise1NewObject() {
        MatrixHouse x = new MatrixHouse();
        Due.noSuch("tapeIs of none", () -> x.tapeIs(0, 0));
        Due.is("clear", 0, () -> x.clear());
        Due.noSuch("no side", () -> x.seconds(0, 0));
        Due.noSuch("no disc", () -> x.grade(0));
        Due.is("no file", MatrixHouse.NONE, () -> x.fileIs(0));
        for (int a = 0; a < 6; a++) {
            int artist = a;
            Due.is("account", 0, () -> x.account(artist));
            Due.is("accountAnew", 0, () -> x.accountAnew(artist));
        }
        Due.is("the day 0", 1, () -> x.pass(1));
        MatrixHouse other = new MatrixHouse();
        Due.is("objects share nothing", 0, () -> other.session(0, 1, 0));
        Due.noSuch("objects share nothing", () -> x.takes(0));
    }

    private static void promise2Session() {
        MatrixHouse x = new MatrixHouse();
        Due.noSuch("artist 6", () -> x.session(6, 0, 0));
        Due.noSuch("artist -1", () -> x.session(-1, 1, 0));
        Due.noSuch("vault 4", () -> x.session(0, 0, 4));
        Due.noSuch("vault -1", () -> x.session(0, 1, -1));
        Due.noSuch("vault far", () -> x.session(0, 1, Integer.MAX_VALUE));
        Due.outOfRange("seconds 0", () -> x.session(0, 0, 0));
        Due.outOfRange("seconds 901", () -> x.session(0, 901, 0));
        Due.outOfRange("seconds far below", () -> x.session(0, Integer.MIN_VALUE, 0));
        for (int i = 0; i < 30; i++) {
            int number = i;
            Due.is("session", number, () -> x.session(number % 6, number == 0 ? 900 : number, number % 4));
        }
        Due.is("its length", 900, () -> x.tapeIs(0, 2));
        Due.is("its vault", 1, () -> x.tapeIs(29, 4));
        Due.is("its take", 29 * 1000, () -> x.heard(29, 0));
        Due.notNow("the 31st", () -> x.session(0, 1, 0));
        Due.outOfRange("seconds ahead of the state", () -> x.session(0, 0, 0));
        Due.noSuch("artist ahead of the state", () -> x.session(6, 1, 0));
        Due.notNow("the 31st by splice", () -> x.splice(1, 0, 1, MatrixHouse.NONE, 0));
    }

    private static void promise3Splice() {
        MatrixHouse x = new MatrixHouse();
        x.session(0, 10, 0);
        x.session(1, 5, 1);
        Due.is("a part and a whole", 2, () -> x.splice(0, 2, 6, 1, 3));
        Due.is("its length", 9, () -> x.tapeIs(2, 2));
        Due.is("its generation", 1, () -> x.tapeIs(2, 3));
        Due.is("its vault", 3, () -> x.tapeIs(2, 4));
        Due.is("its spans", 2, () -> x.tapeIs(2, 5));
        Due.is("it is good", MatrixHouse.GOOD, () -> x.tapeIs(2, 0));
        Due.is("a part alone", 3, () -> x.splice(2, 3, 5, MatrixHouse.NONE, 0));
        Due.is("spans are parted", 2, () -> x.tapeIs(3, 5));
        Due.is("end of the first", 5, () -> x.heard(3, 0));
        Due.is("start of the second", 1000, () -> x.heard(3, 1));
        Due.is("up to a border, that one not with it", 4, () -> x.splice(2, 0, 4, MatrixHouse.NONE, 0));
        Due.is("one span", 1, () -> x.tapeIs(4, 5));
        Due.is("from a border", 5, () -> x.splice(2, 4, 9, MatrixHouse.NONE, 0));
        Due.is("one span", 1, () -> x.tapeIs(5, 5));
        Due.is("the same tape behind it", 6, () -> x.splice(0, 0, 10, 0, 0));
        Due.is("never put together", 2, () -> x.tapeIs(6, 5));
        Due.is("halves stay apart", 7, () -> x.splice(6, 5, 15, MatrixHouse.NONE, 0));
        Due.is("halves stay apart", 2, () -> x.tapeIs(7, 5));
        Due.is("the greater generation is behind", 8, () -> x.splice(0, 0, 1, 7, 0));
        Due.is("the greater generation is behind", 3, () -> x.tapeIs(8, 3));
        Due.is("the greater generation is ahead", 9, () -> x.splice(8, 0, 1, 0, 0));
        Due.is("the greater generation is ahead", 4, () -> x.tapeIs(9, 3));
    }

    private static void promise3SpliceThrows() {
        MatrixHouse x = new MatrixHouse();
        x.session(0, 10, 0);
        x.session(1, 5, 1);
        Due.noSuch("no tape", () -> x.splice(2, 0, 1, 0, 0));
        Due.noSuch("tape -1", () -> x.splice(-1, 0, 1, 0, 0));
        Due.noSuch("no other", () -> x.splice(0, 0, 1, 2, 0));
        Due.noSuch("other -2", () -> x.splice(0, 0, 1, -2, 0));
        Due.noSuch("no other, wrong part", () -> x.splice(0, -1, 1, 2, 0));
        Due.noSuch("vault 4", () -> x.splice(0, 0, 1, 1, 4));
        Due.noSuch("vault -1, wrong part", () -> x.splice(0, 3, 1, 1, -1));
        Due.outOfRange("from -1", () -> x.splice(0, -1, 1, 1, 0));
        Due.outOfRange("to at from", () -> x.splice(0, 1, 1, 1, 0));
        Due.outOfRange("to below from", () -> x.splice(0, 5, 1, 1, 0));
        Due.outOfRange("to above the length", () -> x.splice(0, 0, 11, 1, 0));
        Due.outOfRange("to far", () -> x.splice(0, 0, Integer.MAX_VALUE, 1, 0));
        Due.outOfRange("both far", () -> x.splice(0, Integer.MIN_VALUE, Integer.MIN_VALUE + 1, 1, 0));
        x.shed(1);
        Due.notNow("the other sheds", () -> x.splice(0, 0, 1, 1, 0));
        Due.notNow("the first sheds", () -> x.splice(1, 0, 1, 0, 0));
        Due.outOfRange("range ahead of the state", () -> x.splice(1, 0, 6, 0, 0));
        Due.is("nothing was made", 2, () -> x.splice(0, 0, 10, MatrixHouse.NONE, 0));
    }

    private static void promise3SpanLimit() {
        MatrixHouse x = new MatrixHouse();
        x.session(0, 4, 0);
        x.splice(0, 0, 4, 0, 0);
        x.splice(1, 0, 8, 1, 0);
        x.splice(2, 0, 16, 2, 0);
        x.splice(3, 0, 32, 3, 0);
        Due.is("16 spans", 16, () -> x.tapeIs(4, 5));
        Due.notNow("21 spans", () -> x.splice(4, 0, 17, 4, 0));
        Due.notNow("16 spans and 5, one of them cut", () -> x.splice(2, 0, 16, 4, 0) + x.splice(3, 3, 17, 4, 0));
        Due.is("20 spans", 20, () -> x.tapeIs(5, 5));
        Due.notNow("21 spans", () -> x.splice(5, 0, 80, 0, 0));
        Due.notNow("21 spans, the part ahead", () -> x.splice(0, 0, 1, 5, 0));
        Due.is("20 spans again", 6, () -> x.splice(5, 0, 76, 0, 0));
        Due.is("20 spans again", 20, () -> x.tapeIs(6, 5));
        Due.is("from the border of the first span", 7, () -> x.splice(5, 4, 80, 0, 0));
        Due.is("20 spans again", 20, () -> x.tapeIs(7, 5));
        Due.is("its end", 3, () -> x.heard(6, 79));
        Due.is("behind its end", MatrixHouse.NONE, () -> x.heard(6, 80));
    }

    private static void promise4Shed() {
        MatrixHouse x = new MatrixHouse();
        Due.noSuch("no tape", () -> shed(x, 0));
        Due.noSuch("tape -1", () -> shed(x, -1));
        Due.noSuch("tape 30", () -> shed(x, 30));
        x.session(0, 10, 0);
        x.session(0, 10, 1);
        Due.is("shed", 0, () -> shed(x, 0));
        Due.is("it sheds", MatrixHouse.SHEDS, () -> x.tapeIs(0, 0));
        Due.is("not playable", 0, () -> x.tapeIs(0, 1));
        Due.is("the other one does not", MatrixHouse.GOOD, () -> x.tapeIs(1, 0));
        Due.notNow("it sheds already", () -> shed(x, 0));
        x.bake(0);
        Due.notNow("it is baked", () -> shed(x, 0));
        x.fire(1);
        Due.notNow("it is gone", () -> shed(x, 1));
        Due.is("it stays gone", MatrixHouse.GONE, () -> x.tapeIs(1, 0));
    }

    private static long shed(MatrixHouse x, int tape) {
        x.shed(tape);
        return 0;
    }

    private static void promise5Bake() {
        MatrixHouse x = new MatrixHouse();
        Due.noSuch("no tape", () -> x.bake(0));
        Due.noSuch("tape -1", () -> x.bake(-1));
        x.session(0, 10, 0);
        Due.notNow("it is good", () -> x.bake(0));
        x.pass(7);
        x.shed(0);
        Due.is("bake", 37, () -> x.bake(0));
        Due.is("it is baked", MatrixHouse.BAKED, () -> x.tapeIs(0, 0));
        Due.is("playable", 1, () -> x.tapeIs(0, 1));
        Due.notNow("once", () -> x.bake(0));
        x.pass(29);
        Due.is("playable on day 36", 1, () -> x.tapeIs(0, 1));
        Due.is("splice on day 36", 1, () -> x.splice(0, 0, 10, MatrixHouse.NONE, 1));
        x.pass(1);
        Due.is("not on day 37", 0, () -> x.tapeIs(0, 1));
        Due.is("baked for ever", MatrixHouse.BAKED, () -> x.tapeIs(0, 0));
        Due.notNow("no splice on day 37", () -> x.splice(0, 0, 10, MatrixHouse.NONE, 1));
        Due.notNow("not baked again", () -> x.bake(0));
        Due.is("the copy is good", 1, () -> x.tapeIs(1, 1));
        x.fire(0);
        Due.notNow("gone", () -> x.bake(0));
    }

    private static void promise6Fire() {
        MatrixHouse x = new MatrixHouse();
        Due.noSuch("vault 4", () -> x.fire(4));
        Due.noSuch("vault -1", () -> x.fire(-1));
        Due.is("an empty vault", 0, () -> x.fire(3));
        x.session(0, 10, 0);
        x.session(0, 10, 1);
        x.session(0, 10, 1);
        x.session(0, 10, 1);
        x.shed(2);
        x.shed(3);
        x.bake(3);
        Due.is("good, shedding and baked ones", 3, () -> x.fire(1));
        Due.is("gone", MatrixHouse.GONE, () -> x.tapeIs(3, 0));
        Due.is("not playable", 0, () -> x.tapeIs(1, 1));
        Due.is("of another vault", MatrixHouse.GOOD, () -> x.tapeIs(0, 0));
        Due.is("again", 0, () -> x.fire(1));
        Due.is("a later session there", 4, () -> x.session(0, 5, 1));
        Due.is("is good", MatrixHouse.GOOD, () -> x.tapeIs(4, 0));
        Due.is("only the later one", 1, () -> x.fire(1));
        Due.notNow("no splice of what is gone", () -> x.splice(1, 0, 1, MatrixHouse.NONE, 0));
        Due.is("length of what is gone", 10, () -> x.tapeIs(1, 2));
        Due.is("heard on what is gone", 1009, () -> x.heard(1, 9));
        Due.is("takes on what is gone", 2, () -> x.takes(1));
    }

    private static void promise7TapeIs() {
        MatrixHouse x = new MatrixHouse();
        x.session(3, 42, 2);
        int[] wanted = {MatrixHouse.GOOD, 1, 42, 0, 2, 1};
        for (int i = 0; i < wanted.length; i++) {
            int what = i;
            Due.is("tapeIs " + what, wanted[what], () -> x.tapeIs(0, what));
        }
        Due.outOfRange("what 6", () -> x.tapeIs(0, 6));
        Due.outOfRange("what -1", () -> x.tapeIs(0, -1));
        Due.noSuch("tape 1", () -> x.tapeIs(1, 0));
        Due.noSuch("tape -1", () -> x.tapeIs(-1, 0));
        Due.noSuch("tape ahead of what", () -> x.tapeIs(30, 6));
    }

    private static void promise8Heard() {
        MatrixHouse x = new MatrixHouse();
        x.session(0, 900, 0);
        x.session(0, 3, 0);
        Due.is("the start", 0, () -> x.heard(0, 0));
        Due.is("the end", 899, () -> x.heard(0, 899));
        Due.is("from the length on", MatrixHouse.NONE, () -> x.heard(0, 900));
        Due.is("far on", MatrixHouse.NONE, () -> x.heard(0, Integer.MAX_VALUE));
        Due.is("another take", 1002, () -> x.heard(1, 2));
        Due.outOfRange("second -1", () -> x.heard(0, -1));
        Due.outOfRange("second far below", () -> x.heard(0, Integer.MIN_VALUE));
        Due.noSuch("tape ahead of the second", () -> x.heard(2, -1));
        Due.noSuch("tape -1", () -> x.heard(-1, 0));
        x.splice(0, 880, 890, 1, 0);
        x.splice(2, 8, 12, 2, 0);
        long[] wanted = {888, 889, 1000, 1001, 880, 881};
        for (int i = 0; i < wanted.length; i++) {
            int second = i;
            Due.is("heard " + second, wanted[second], () -> x.heard(3, second));
        }
    }

    private static void promise9And10Takes() {
        MatrixHouse x = new MatrixHouse();
        Due.noSuch("takes of none", () -> x.takes(0));
        Due.noSuch("takesAnew of none", () -> x.takesAnew(0));
        Due.noSuch("takes of -1", () -> x.takes(-1));
        Due.noSuch("takesAnew of -1", () -> x.takesAnew(-1));
        x.session(0, 10, 0);
        x.session(1, 10, 0);
        x.session(2, 10, 0);
        x.splice(0, 0, 10, 1, 0);
        x.splice(3, 5, 20, 2, 0);
        x.splice(4, 0, 5, MatrixHouse.NONE, 0);
        x.splice(4, 5, 6, MatrixHouse.NONE, 0);
        x.splice(4, 14, 16, 6, 0);
        x.splice(7, 0, 1, 7, 0);
        x.splice(0, 0, 5, 1, 0);
        x.splice(9, 4, 6, 2, 0);
        x.splice(10, 0, 2, MatrixHouse.NONE, 0);
        int[] wanted = {1, 2, 4, 3, 7, 1, 2, 6, 6, 3, 7, 3};
        for (int i = 0; i < wanted.length; i++) {
            int tape = i;
            Due.is("takes " + tape, wanted[tape], () -> x.takes(tape));
            Due.is("takesAnew " + tape, wanted[tape], () -> x.takesAnew(tape));
        }
        x.fire(0);
        Due.is("takes of what is gone", 7, () -> x.takes(4));
        Due.is("takesAnew of what is gone", 7, () -> x.takesAnew(4));
    }

    private static void promise10LongTape() {
        MatrixHouse x = new MatrixHouse();
        for (int take = 0; take < 10; take++) {
            x.session(take % 6, 900, 0);
        }
        x.splice(0, 0, 900, 1, 0);
        for (int take = 2; take < 10; take++) {
            x.splice(take, 0, 900, 8 + take, 0);
        }
        Due.is("ten takes long", 9000, () -> x.tapeIs(18, 2));
        for (int copy = 19; copy < 29; copy++) {
            x.splice(copy - 1, 0, 9000, MatrixHouse.NONE, 0);
        }
        Due.is("generations", 19, () -> x.tapeIs(28, 3));
        Due.is("takes", 1023, () -> x.takes(28));
        Due.is("takesAnew", 1023, () -> x.takesAnew(28));
        x.session(0, 1, 0);
        Due.is("the highest take", 1 << 29, () -> x.takes(29));
        Due.is("the highest take anew", 1 << 29, () -> x.takesAnew(29));
    }

    private static void promise11IsLostByTapes() {
        MatrixHouse x = new MatrixHouse();
        Due.noSuch("no take", () -> x.isLost(0) ? 1 : 0);
        Due.noSuch("take -1", () -> x.isLost(-1) ? 1 : 0);
        x.session(0, 10, 0);
        x.session(0, 10, 0);
        x.splice(0, 0, 1, MatrixHouse.NONE, 1);
        Due.noSuch("a splice", () -> x.isLost(2) ? 1 : 0);
        Due.is("not lost", 0, () -> x.isLost(0) ? 1 : 0);
        x.fire(0);
        Due.is("a second of it is left", 0, () -> x.isLost(0) ? 1 : 0);
        Due.is("nothing of it is left", 1, () -> x.isLost(1) ? 1 : 0);
        x.shed(2);
        Due.is("one that sheds is not gone", 0, () -> x.isLost(0) ? 1 : 0);
        x.fire(1);
        Due.is("lost", 1, () -> x.isLost(0) ? 1 : 0);
    }

    private static void promise11IsLostBySides() {
        MatrixHouse x = new MatrixHouse();
        x.session(0, 10, 0);
        x.session(0, 10, 0);
        x.add(0);
        x.cut(1);
        x.stamper(0, 0, 0);
        x.stamper(0, 0, 1);
        x.press(0, 0, 1, 2);
        x.fire(0);
        Due.is("pressed alone", 1, () -> x.isLost(0) ? 1 : 0);
        x.sell(0, 0, 1, 2);
        Due.is("sold", 0, () -> x.isLost(0) ? 1 : 0);
        Due.is("not on the side", 1, () -> x.isLost(1) ? 1 : 0);
        x.back(0, 0, 1, 1);
        Due.is("one is left", 0, () -> x.isLost(0) ? 1 : 0);
        x.back(0, 0, 1, 1);
        Due.is("all came back", 1, () -> x.isLost(0) ? 1 : 0);
    }
}
