import java.util.ArrayList;
import java.util.List;

/** What the tests of the document's sentences are told with. */
abstract class Sentences {
    /** Two tapes, 300 seconds of the artist 0 and 100 of the artist 1, and a side of both. */
    static final String SIDE = "session 0 300 0; session 1 100 0; add 0; add 1; cut 1; ";
    static final String STAMPER = SIDE + "stamper 0 0 0; ";
    static final String PRESSED = STAMPER + "press 0 0 0 500; ";
    /** The discs 0 and 1 of one side and of two stampers, and the disc 2 of another side. */
    static final String DISCS = SIDE + "add 0; cut 1; stamper 0 0 0; stamper 0 0 1; stamper 1 0 0; "
            + "press 0 0 0 9; press 0 0 1 9; press 1 0 0 9; sell 0 0 0 5; sell 0 0 1 5; sell 1 0 0 5; "
            + "disc 0 0 0; disc 0 0 1; disc 1 0 0; ";
    private static final int GOOD_FOR = 512;

    static Document document;

    static void promise(int number) {
        document.enter("Promise " + number);
    }

    static void terms() {
        document.enter("Terms");
    }

    static void cite(String sentence) {
        document.cite(sentence);
    }

    /**
     * Makes the calls of a row on one house. Each answers what it wants, or at least is answered; and
     * after each that is refused, or only asks, the house is as one that was never called so.
     */
    static void row(String told) {
        MatrixHouse house = new MatrixHouse();
        List<Call> made = new ArrayList<>();
        StringBuilder label = new StringBuilder(document.label()).append(" | ");
        int calls = 0;
        for (Call call : Call.row(told)) {
            String got = call.answerOf(house);
            calls += call.times;
            label.append(call.text);
            compare(label.toString(), call, got);
            label.append(" = ").append(got).append("; ");
            if (call.want != null && Call.isRefusal(call.want) || call.isQuestion()) {
                Due.compare(label + " and so nothing else", "", State.changedBy(made, call));
            } else {
                made.add(call);
            }
        }
        Due.holds(label + " has calls for one house", calls <= GOOD_FOR);
    }

    private static void compare(String label, Call call, String got) {
        if (call.want != null) {
            Due.compare(label, call.want, got);
        } else {
            // an answer is a number: all else is a refusal, or what the machine throws
            Due.holds(label + " is answered, not " + got, got.matches("-?[0-9]+"));
        }
    }

    /**
     * The call is made with each value in the place of its '#': it answers at the least one and at the
     * highest one, and is refused by one less, by one more, and far outside.
     */
    static void range(String setup, String call, int least, String atLeast, int most, String atMost,
            String refusal) {
        row(setup + with(call, least) + " = " + atLeast);
        row(setup + with(call, most) + " = " + atMost);
        if (least > Integer.MIN_VALUE) {
            row(setup + with(call, least - 1) + " = " + refusal + "; "
                    + with(call, Integer.MIN_VALUE) + " = " + refusal);
        }
        if (most < Integer.MAX_VALUE) {
            row(setup + with(call, most + 1) + " = " + refusal + "; "
                    + with(call, Integer.MAX_VALUE) + " = " + refusal);
        }
    }

    /** All stampers of a side, in the order of their mothers and numbers. */
    static String stampersOf(int side) {
        StringBuilder all = new StringBuilder();
        for (int place = 0; place < 12; place++) {
            all.append("stamper ").append(side).append(' ').append(place / 4).append(' ').append(place % 4)
                    .append(" = ").append(place + 1).append("; ");
        }
        return all.toString();
    }

    private static String with(String call, int value) {
        return call.replace("#", Integer.toString(value));
    }

    /** Each of these calls, on a house of its own. */
    static void each(String setup, String want, String... calls) {
        for (String call : calls) {
            row(setup + call + " = " + want);
        }
    }
}
