import java.util.HashMap;
import java.util.List;
import java.util.Map;

/**
 * All that a house answers after a row of calls, as one text: what can be asked of it, and what its
 * next calls would answer, as much of the state shows in these alone. As those calls change the
 * house, each kind of them is made on a house of its own; and as a house is good for 512 calls, what
 * would be above that is left out.
 */
final class State {
    private static final int GOOD_FOR = 512;
    private static final int ASPECTS = 17;
    private static final Map<String, String> KNOWN = new HashMap<>();

    private final MatrixHouse house = new MatrixHouse();
    private final StringBuilder told = new StringBuilder();
    private int left = GOOD_FOR;

    private State(List<Call> calls, Call last, boolean isMade) {
        for (Call call : calls) {
            call.answerOf(house);
            left -= call.times;
        }
        // a house without the last call asks no more than one with it could
        left -= last.times;
        if (isMade) {
            last.answerOf(house);
        }
    }

    /** What the last call changes that can be told of a house, or nothing. */
    static String changedBy(List<Call> calls, Call last) {
        StringBuilder key = new StringBuilder();
        for (Call call : calls) {
            key.append(call.text).append("; ");
        }
        key.append(last.times);
        String without = KNOWN.computeIfAbsent(key.toString(), k -> tell(calls, last, false));
        return difference(without, tell(calls, last, true));
    }

    /** The first line that is not the same in both, or nothing. */
    private static String difference(String one, String other) {
        String[] ones = one.split("\n");
        String[] others = other.split("\n");
        for (int i = 0; i < Math.min(ones.length, others.length); i++) {
            if (!ones[i].equals(others[i])) {
                return ones[i] + " became " + others[i];
            }
        }
        return ones.length == others.length ? "" : "more or fewer answers";
    }

    private static String tell(List<Call> calls, Call last, boolean isMade) {
        StringBuilder all = new StringBuilder();
        for (int aspect = 0; aspect < ASPECTS; aspect++) {
            State state = new State(calls, last, isMade);
            state.tellAspect(aspect);
            all.append(state.told);
        }
        return all.toString();
    }

    private void tellAspect(int aspect) {
        switch (aspect) {
            case 0 -> tellTapes();
            case 1 -> tellHeard();
            case 2 -> tellSides();
            case 3 -> tellStampers(0, 4);
            case 4 -> tellStampers(4, 10);
            case 5 -> tellDiscs();
            case 6 -> tellFile();
            case 7 -> tellRepairsLeft();
            case 8 -> tellAccounts();
            case 9 -> tellReturns();
            case 10 -> tellProgramAndDay();
            case 11 -> tellWhatIsCut();
            case 12 -> tellNextStampersAndPressings();
            case 13 -> tellNumbersThatAreLeft();
            case 14 -> tellSalesThatAreLeft();
            case 15 -> tellBakedDays();
            default -> tellShedsAndFires();
        }
    }

    /** Answers nothing, and calls nothing, if the house is not good for it any more. */
    private String ask(String name, int... arguments) {
        if (left <= 0) {
            return "S";
        }
        left--;
        String answer = Call.answer(house, name, arguments);
        told.append(name);
        for (int argument : arguments) {
            told.append(' ').append(argument);
        }
        told.append(" = ").append(answer).append('\n');
        return answer;
    }

    private boolean isAnswered(String name, int... arguments) {
        return !Call.isRefusal(ask(name, arguments));
    }

    private void tellTapes() {
        for (int tape = 0; isAnswered("tapeIs", tape, 0); tape++) {
            for (int what = 1; what <= 5; what++) {
                ask("tapeIs", tape, what);
            }
            ask("takes", tape);
            ask("takesAnew", tape);
            ask("isLost", tape);
        }
    }

    private void tellHeard() {
        String length = ask("tapeIs", 0, 2);
        for (int tape = 0; !Call.isRefusal(length); tape++) {
            for (int eighth = 0; eighth <= 8; eighth++) {
                ask("heard", tape, Integer.parseInt(length) * eighth / 8);
            }
            length = ask("tapeIs", tape + 1, 2);
        }
    }

    private void tellSides() {
        for (int side = 0; isAnswered("seconds", side, MatrixHouse.NONE); side++) {
            for (int artist = 0; artist <= 5; artist++) {
                ask("seconds", side, artist);
            }
        }
    }

    private void tellStampers(int from, int to) {
        for (int side = from; side < to; side++) {
            for (int place = 0; place < 12; place++) {
                String made = ask("stamperIs", side, place / 4, place % 4, 0);
                for (int what = 1; what <= 4 && !Call.isRefusal(made) && !made.equals("-1"); what++) {
                    ask("stamperIs", side, place / 4, place % 4, what);
                }
            }
        }
    }

    private void tellDiscs() {
        for (int disc = 0; isAnswered("grade", disc); disc++) {
            for (int part = 0; part <= 7; part++) {
                ask("noise", disc, part);
            }
            // its wear is seen best by what it is then
            ask("play", disc, 1, 1);
        }
    }

    private void tellFile() {
        for (int part = 0; part <= 7; part++) {
            ask("fileIs", part);
        }
        while (isAnswered("undo")) {
            for (int part = 0; part <= 7; part++) {
                ask("fileIs", part);
            }
        }
    }

    private void tellRepairsLeft() {
        while (isAnswered("repair", 0)) {
            ask("fileIs", 0);
        }
    }

    /** Rates are seen by what the artists are due for one more sale. */
    private void tellAccounts() {
        tellAccountsNow();
        for (int side = 0; isAnswered("seconds", side, MatrixHouse.NONE); side++) {
            for (int place = 0; place < 4; place++) {
                ask("press", side, 0, place, 400);
                if (isAnswered("sell", side, 0, place, 400) || isAnswered("sell", side, 0, place, 20)) {
                    tellAccountsNow();
                }
            }
        }
        for (int artist = 0; artist <= 5; artist++) {
            ask("payOut", artist);
        }
    }

    private void tellAccountsNow() {
        for (int artist = 0; artist <= 5; artist++) {
            ask("account", artist);
            ask("accountAnew", artist);
        }
    }

    /** What was due of each sale is seen as its discs come back one by one. */
    private void tellReturns() {
        for (int side = 0; isAnswered("seconds", side, MatrixHouse.NONE); side++) {
            for (int place = 0; place < 12; place++) {
                for (int i = 0; i < 20 && isAnswered("back", side, place / 4, place % 4, 1); i++) {
                    ask("account", 0);
                    ask("account", 1);
                }
            }
        }
    }

    private void tellProgramAndDay() {
        ask("clear");
        ask("pass", 1);
    }

    private void tellWhatIsCut() {
        ask("cut", 1);
        tellSides();
    }

    private void tellNextStampersAndPressings() {
        for (int side = 0; isAnswered("seconds", side, MatrixHouse.NONE); side++) {
            for (int place = 0; place < 12; place++) {
                ask("stamper", side, place / 4, place % 4);
                ask("press", side, place / 4, place % 4, 1);
                ask("stamperIs", side, place / 4, place % 4, 3);
            }
        }
    }

    private void tellNumbersThatAreLeft() {
        while (isAnswered("session", 0, 1, 0)) {
            continue;
        }
        for (int place = 0; place < 4; place++) {
            while (isAnswered("disc", 0, 0, place)) {
                continue;
            }
        }
    }

    private void tellSalesThatAreLeft() {
        for (int place = 0; place < 4; place++) {
            while (isAnswered("sell", 0, 0, place, 1)) {
                continue;
            }
        }
    }

    private void tellBakedDays() {
        for (int day = 1; day <= 31; day++) {
            ask("pass", 1);
            for (int tape = 0; tape < 4; tape++) {
                ask("tapeIs", tape, 1);
            }
        }
    }

    private void tellShedsAndFires() {
        for (int tape = 0; isAnswered("tapeIs", tape, 0); tape++) {
            ask("shed", tape);
            ask("bake", tape);
        }
        for (int vault = 0; vault <= 3; vault++) {
            ask("fire", vault);
        }
    }
}
