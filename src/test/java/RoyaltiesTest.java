/** Promises 31 to 35: royalties and days. */
public final class RoyaltiesTest {
    public static void main(String[] args) {
        promise31Contract();
        promise31RatesHoldAsSold();
        promise32And33Account();
        promise32Backs();
        promise32LargeNumbers();
        promise34PayOut();
        promise35Pass();
        Due.end("RoyaltiesTest");
    }

    private static MatrixHouse withPressed() {
        MatrixHouse x = SidesTest.withSide();
        x.press(0, 0, 0, 500);
        return x;
    }

    private static void accounts(MatrixHouse x, int artist, int cents) {
        Due.is("account of " + artist, cents, () -> x.account(artist));
        Due.is("accountAnew of " + artist, cents, () -> x.accountAnew(artist));
    }

    private static void promise31Contract() {
        MatrixHouse x = new MatrixHouse();
        Due.noSuch("artist 6", () -> x.contract(6, -1, 0));
        Due.noSuch("artist -1", () -> x.contract(-1, 0, 0));
        Due.outOfRange("rate -1", () -> x.contract(0, -1, 0));
        Due.outOfRange("rate 10000", () -> x.contract(0, 10000, 0));
        Due.outOfRange("advance -1", () -> x.contract(0, 0, -1));
        Due.outOfRange("advance 1000000", () -> x.contract(0, 0, 1000000));
        Due.is("no advance", 0, () -> x.contract(0, 9999, 0));
        Due.is("an advance", -999999, () -> x.contract(0, 0, 999999));
        Due.is("another one", -1000000, () -> x.contract(0, 0, 1));
        Due.is("another artist", -7, () -> x.contract(5, 0, 7));
        accounts(x, 0, -1000000);
        accounts(x, 5, -7);
        accounts(x, 1, 0);
    }

    private static void promise31RatesHoldAsSold() {
        MatrixHouse x = withPressed();
        x.sell(0, 0, 0, 100);
        accounts(x, 0, 0);
        x.contract(0, 1000, 0);
        accounts(x, 0, 0);
        x.sell(0, 0, 0, 100);
        accounts(x, 0, 750);
        x.contract(0, 2000, 0);
        x.pass(1);
        accounts(x, 0, 750);
        x.sell(0, 0, 0, 100);
        accounts(x, 0, 2250);
        x.contract(0, 0, 0);
        x.sell(0, 0, 0, 100);
        accounts(x, 0, 2250);
        accounts(x, 1, 0);
    }

    private static void promise32And33Account() {
        MatrixHouse x = withPressed();
        Due.noSuch("artist 6", () -> x.account(6));
        Due.noSuch("artist -1", () -> x.account(-1));
        Due.noSuch("artist 6 anew", () -> x.accountAnew(6));
        Due.noSuch("artist -1 anew", () -> x.accountAnew(-1));
        x.contract(0, 1000, 50);
        x.contract(1, 333, 0);
        x.contract(2, 9999, 0);
        x.sell(0, 0, 0, 7);
        accounts(x, 0, 2);
        accounts(x, 1, 5);
        accounts(x, 2, 0);
        x.sell(0, 0, 0, 1);
        x.sell(0, 0, 0, 1);
        // each sale of one disc: 7.5 and 0.8325, rounded down once each
        accounts(x, 0, 16);
        accounts(x, 1, 5);
    }

    private static void promise32Backs() {
        MatrixHouse x = withPressed();
        x.stamper(0, 0, 1);
        x.press(0, 0, 1, 10);
        x.contract(0, 1000, 0);
        x.sell(0, 0, 0, 7);
        x.contract(0, 2000, 0);
        x.sell(0, 0, 0, 7);
        x.contract(0, 4000, 0);
        x.sell(0, 0, 1, 10);
        accounts(x, 0, 52 + 105 + 300);
        x.back(0, 0, 0, 2);
        accounts(x, 0, 52 + 75 + 300);
        x.back(0, 0, 0, 6);
        accounts(x, 0, 45 + 0 + 300);
        x.sell(0, 0, 0, 1);
        accounts(x, 0, 45 + 30 + 300);
        x.back(0, 0, 0, 4);
        accounts(x, 0, 22 + 300);
        x.back(0, 0, 1, 10);
        accounts(x, 0, 22);
        Due.is("payOut", 22, () -> x.payOut(0));
        x.back(0, 0, 0, 3);
        accounts(x, 0, -22);
    }

    private static void promise32LargeNumbers() {
        MatrixHouse x = new MatrixHouse();
        x.session(3, 675, 0);
        x.splice(0, 0, 675, 0, 0);
        x.add(1);
        x.cut(1);
        x.stamper(0, 0, 0);
        x.press(0, 0, 0, 500);
        x.contract(3, 9999, 0);
        x.sell(0, 0, 0, 500);
        accounts(x, 3, 49995);
        x.back(0, 0, 0, 499);
        accounts(x, 3, 99);
    }

    private static void promise34PayOut() {
        MatrixHouse x = withPressed();
        Due.noSuch("artist 6", () -> x.payOut(6));
        Due.noSuch("artist -1", () -> x.payOut(-1));
        Due.is("nothing", 0, () -> x.payOut(0));
        x.contract(0, 1000, 10);
        Due.is("below 0", 0, () -> x.payOut(0));
        accounts(x, 0, -10);
        x.sell(0, 0, 0, 100);
        Due.is("what is in it", 740, () -> x.payOut(0));
        accounts(x, 0, 0);
        Due.is("nothing is left", 0, () -> x.payOut(0));
        x.sell(0, 0, 0, 10);
        Due.is("what came since", 75, () -> x.payOut(0));
        accounts(x, 0, 0);
        Due.is("another artist", 0, () -> x.payOut(1));
    }

    private static void promise35Pass() {
        MatrixHouse x = new MatrixHouse();
        Due.outOfRange("0", () -> x.pass(0));
        Due.outOfRange("-1", () -> x.pass(-1));
        Due.outOfRange("1000", () -> x.pass(1000));
        Due.outOfRange("far", () -> x.pass(Integer.MAX_VALUE));
        for (int i = 1; i <= 10; i++) {
            int day = 999 * i;
            Due.is("pass", day, () -> x.pass(999));
        }
        Due.notNow("10000", () -> x.pass(10));
        Due.outOfRange("range ahead of the state", () -> x.pass(1000));
        Due.is("9999", 9999, () -> x.pass(9));
        Due.notNow("10000", () -> x.pass(1));
        x.session(0, 1, 0);
        x.shed(0);
        Due.is("a day that never comes", 10029, () -> x.bake(0));
    }
}
