/** The sentences of the promises 31 to 35: royalties and days. */
final class RoyaltySentences extends Sentences {
    /** 7 discs at 1000 and 7 at 2000 of one stamper, 10 at 4000 of another one; the artist 0 is due 457. */
    private static final String SALES = PRESSED + "stamper 0 0 1; press 0 0 1 10; contract 0 1000 0; sell 0 0 0 7; "
            + "contract 0 2000 0; sell 0 0 0 7; contract 0 4000 0; sell 0 0 1 10; ";

    static void run() {
        contract();
        account("account", 32, "Returns the ACCOUNT of an ARTIST.");
        account("accountAnew", 33, "Returns the same, found by all sales that are left, contracts and what was paid "
                + "out.");
        payOut();
        pass();
    }

    private static void contract() {
        promise(31);
        cite("Makes a contract.");
        row(PRESSED + "contract 0 1000 40; account 0 = -40; account 1 = 0; sell 0 0 0 100; account 0 = 710; "
                + "account 1 = 0; contract 0 500 0; account 0 = 710; sell 0 0 0 100; account 0 = 1085; back 0 0 0 100; "
                + "account 0 = 710; back 0 0 0 100; account 0 = -40");
        cite("`rate`: 0 to 9999");
        range("", "contract 0 # 7", 0, "-7", 9999, "-7", "A");
        row(PRESSED + "contract 0 9999 0; sell 0 0 0 400; account 0 = 29997; accountAnew 0 = 29997; contract 0 0 0; "
                + "sell 0 0 0 100; account 0 = 29997; accountAnew 0 = 29997");
        cite("`advance`: 0 to 999999");
        range("", "contract 0 7 #", 0, "0", 999999, "-999999", "A");
        cite("Returns the ACCOUNT then.");
        row(PRESSED + "contract 0 1000 0 = 0; contract 0 1000 1 = -1; contract 0 1000 2 = -3; contract 1 0 9 = -9; "
                + "sell 0 0 0 100; contract 0 1000 0 = 747; contract 0 1000 748 = -1; contract 0 0 999999 = -1000000");
        cite("Throws `IndexOutOfBoundsException` if there is no such ARTIST");
        range("", "contract # 1 7", 0, "-7", 5, "-7", "B");
        each("", "B", "contract 6 -1 0", "contract 6 10000 0", "contract -1 0 -1", "contract -1 0 1000000",
                "contract NONE MAX MIN");
        cite("Throws `IllegalArgumentException` if rate or advance is out of range");
        String known = PRESSED + "contract 0 1000 40; contract 5 1000 40; ";
        each(known, "A", "contract 0 -1 0", "contract 0 10000 0", "contract 0 5 -1", "contract 0 5 1000000",
                "contract 5 -1 -1", "contract 5 10000 1000000", "contract 0 MAX 1", "contract 0 MIN 1",
                "contract 0 1 MAX", "contract 0 1 MIN");
        row(known + "contract 0 10000 5 = A; contract 0 5 1000000 = A; contract 0 5 -1 = A; sell 0 0 0 100; "
                + "account 0 = 710; accountAnew 0 = 710");
    }

    private static void account(String name, int number, String sentence) {
        promise(number);
        cite(sentence);
        String is = name + " 0 = ";
        row(is + "0; contract 0 0 5; " + is + "-5; " + name + " 1 = 0");
        row(SALES + is + "457; back 0 0 0 2; " + is + "427; back 0 0 0 5; " + is + "352; back 0 0 0 1; " + is
                + "345; back 0 0 1 10; " + is + "45; back 0 0 0 6; " + is + "0");
        row(SALES + "back 0 0 0 8; " + is + "345; sell 0 0 0 1; " + is + "375; back 0 0 0 2; " + is
                + "337; back 0 0 1 9; " + is + "67");
        row(SALES + "payOut 0 = 457; " + is + "0; back 0 0 0 14; " + is + "-157; contract 0 0 3; " + is
                + "-160; payOut 0 = 0; " + is + "-160; sell 0 0 0 100; " + is + "-160");
        row(SALES + "contract 1 400 0; sell 0 0 0 99; " + name + " 1 = 99; contract 1 4 0; " + name
                + " 1 = 99; sell 0 0 0 99; " + name + " 1 = 99; sell 0 0 0 100; " + name + " 1 = 100; " + name
                + " 2 = 0");
        row(SALES + "pass 99; fire 0; fire 1; " + is + "457; clear; add 0 = S; " + is + "457");
        row("session 5 10 0; add 0; cut 1; stamper 0 0 0; press 0 0 0 500; contract 5 100 0; sell 0 0 0 1 *100; " + name
                + " 5 = 100; back 0 0 0 1; " + name + " 5 = 99; back 0 0 0 50; " + name + " 5 = 49; back 0 0 0 49; "
                + name + " 5 = 0");
        row(PRESSED + "contract 0 9999 999999 *100; sell 0 0 0 500; " + name + " 0 = -99962404; back 0 0 0 500; " + name
                + " 0 = -99999900");
        cite("Throws `IndexOutOfBoundsException` if there is no such ARTIST");
        range("contract 0 0 7; contract 5 0 8; ", name + " #", 0, "-7", 5, "-8", "B");
        range(SALES, name + " #", 0, "457", 5, "0", "B");
    }

    private static void payOut() {
        promise(34);
        cite("Pays out what is in an ACCOUNT.");
        row(SALES + "payOut 0; account 0 = 0; accountAnew 0 = 0; sell 0 0 0 10; account 0 = 300; payOut 1; "
                + "account 0 = 300; payOut 0; account 0 = 0; accountAnew 0 = 0");
        cite("Returns the cents; 0 if it is not above 0.");
        row(SALES + "payOut 0 = 457; payOut 0 = 0; contract 0 4000 1; payOut 0 = 0; account 0 = -1; accountAnew 0 = -1; "
                + "sell 0 0 0 1; account 0 = 29; payOut 0 = 29; payOut 0 = 0; payOut 5 = 0");
        row(PRESSED + "contract 1 400 1; sell 0 0 0 1; account 1 = 0; payOut 1 = 0; sell 0 0 0 1; account 1 = 1; "
                + "payOut 1 = 1; account 1 = 0; accountAnew 1 = 0; back 0 0 0 1; account 1 = -1; payOut 1 = 0; "
                + "account 1 = -1; accountAnew 1 = -1");
        row("session 5 10 0; add 0; cut 1; stamper 0 0 0; press 0 0 0 500; contract 5 9999 999999; payOut 5 = 0; "
                + "account 5 = -999999; sell 0 0 0 500; account 5 = -950004; payOut 5 = 0");
        cite("Throws `IndexOutOfBoundsException` if there is no such ARTIST");
        range("", "payOut #", 0, "0", 5, "0", "B");
        range(SALES, "payOut #", 0, "457", 5, "0", "B");
    }

    private static void pass() {
        promise(35);
        cite("Lets days pass.");
        row(SIDE + "pass 5; stamper 0 0 0; pass 7; stamper 0 0 1; stamperIs 0 0 0 0 = 5; stamperIs 0 0 1 0 = 12; shed 0; "
                + "bake 0 = 42; pass 30; tapeIs 0 1 = 0");
        cite("`days`: 1 to 999");
        range("", "pass #", 1, "1", 999, "999", "A");
        cite("Returns the day then.");
        row("pass 1 = 1; pass 998 = 999; pass 999 = 1998; pass 2 = 2000");
        cite("Throws `IllegalArgumentException` if days is out of range");
        each("pass 7; ", "A", "pass 0", "pass -1", "pass 1000", "pass MAX", "pass MIN");
        each("pass 999 *10; pass 9; ", "A", "pass 0", "pass -1", "pass 1000", "pass MAX", "pass MIN");
        cite("Throws `IllegalStateException` if it would be above 9999");
        row("pass 999 *10 = 9990; pass 10 = S; pass 999 = S; pass 8 = 9998; pass 2 = S; pass 1 = 9999; pass 1 = S; "
                + "pass 999 = S");
        row("pass 999 *9 = 8991; pass 9 = 9000; pass 999 = 9999; pass 1 = S");
        row("pass 999 *9 = 8991; pass 10 = 9001; pass 999 = S; pass 998 = 9999");
    }
}
