import java.math.BigInteger;
import java.util.ArrayList;
import java.util.List;

/**
 * What MatrixHouse promises, kept as plainly as can be: every second of a tape and every disc that
 * was sold by itself, and every answer counted anew. It is here to compare with.
 */
public final class PlainHouse {
    private static final class Tape {
        int artist = -1;
        int vault;
        int generation;
        boolean isSplice;
        /** Each second: the take and its second; and whether a span starts there. */
        final List<int[]> heard = new ArrayList<>();
        final List<Boolean> starts = new ArrayList<>();
        int how;
        int baked;
    }

    private static final class Piece {
        int sale;
        boolean isBack;
        boolean isNamed;
    }

    private static final class Sale {
        int side;
        int[] rates;
        final List<Piece> pieces = new ArrayList<>();
    }

    private static final class Stamper {
        int made;
        final List<Integer> pressings = new ArrayList<>();
        int pressed;
        final List<Piece> sold = new ArrayList<>();
    }

    private static final class Disc {
        int side;
        final List<Integer> plays = new ArrayList<>();
        final List<Integer> scratches = new ArrayList<>();
    }

    private int day;
    private final List<Tape> tapes = new ArrayList<>();
    private List<Tape> program = new ArrayList<>();
    private final List<List<int[]>> sides = new ArrayList<>();
    private final List<Stamper[][]> matrices = new ArrayList<>();
    private final List<Sale> sales = new ArrayList<>();
    private final List<Disc> discs = new ArrayList<>();
    private int[] fileNoise;
    private List<Integer> repairs = new ArrayList<>();
    private final List<int[]> contracts = new ArrayList<>();
    private final List<int[]> payments = new ArrayList<>();

    int tapeCount() {
        return tapes.size();
    }

    int sideCount() {
        return sides.size();
    }

    int discCount() {
        return discs.size();
    }

    int lengthOf(int tape) {
        return tape >= 0 && tape < tapes.size() ? tapes.get(tape).heard.size() : 0;
    }

    /** How far a house came to one of its limits: the most that there is of what is named. */
    int reached(String what) {
        int most = 0;
        switch (what) {
            case "tapes":
                return tapes.size();
            case "spans":
                for (Tape tape : tapes) {
                    most = Math.max(most, spans(tape));
                }
                return most;
            case "tapes of a program":
                return program.size();
            case "sides":
                return sides.size();
            case "stampers":
                for (int side = 0; side < sides.size(); side++) {
                    most = Math.max(most, stampersOf(side).size());
                }
                return most;
            case "pressed":
                for (int side = 0; side < sides.size(); side++) {
                    for (Stamper stamper : stampersOf(side)) {
                        most = Math.max(most, stamper.pressed);
                    }
                }
                return most;
            case "sales":
                return sales.size();
            case "discs":
                return discs.size();
            case "repairs":
                return repairs.size();
            case "days":
                return day;
            default:
                throw new IllegalArgumentException(what);
        }
    }

    private List<Stamper> stampersOf(int side) {
        List<Stamper> made = new ArrayList<>();
        for (Stamper[] row : matrices.get(side)) {
            for (Stamper stamper : row) {
                if (stamper != null) {
                    made.add(stamper);
                }
            }
        }
        return made;
    }

    private static void index(boolean holds) {
        if (!holds) {
            throw new IndexOutOfBoundsException();
        }
    }

    private static void range(int value, int least, int most) {
        if (value < least || value > most) {
            throw new IllegalArgumentException();
        }
    }

    private static void state(boolean holds) {
        if (!holds) {
            throw new IllegalStateException();
        }
    }

    private static void artistIs(int artist) {
        index(artist >= 0 && artist <= 5);
    }

    private static void vaultIs(int vault) {
        index(vault >= 0 && vault <= 3);
    }

    private static void partIs(int part) {
        index(part >= 0 && part <= 7);
    }

    private Tape tapeOf(int tape) {
        index(tape >= 0 && tape < tapes.size());
        return tapes.get(tape);
    }

    private Disc discOf(int disc) {
        index(disc >= 0 && disc < discs.size());
        return discs.get(disc);
    }

    private Stamper stamperOf(int side, int mother, int number) {
        index(side >= 0 && side < sides.size());
        index(mother >= 0 && mother <= 2 && number >= 0 && number <= 3);
        return matrices.get(side)[mother][number];
    }

    private boolean playable(Tape tape) {
        return tape.how == 0 || tape.how == 2 && day < tape.baked + 30;
    }

    public int session(int artist, int seconds, int vault) {
        artistIs(artist);
        vaultIs(vault);
        range(seconds, 1, 900);
        state(tapes.size() < 30);
        Tape made = new Tape();
        made.artist = artist;
        made.vault = vault;
        for (int i = 0; i < seconds; i++) {
            made.heard.add(new int[] {tapes.size(), i});
            made.starts.add(i == 0);
        }
        tapes.add(made);
        return tapes.size() - 1;
    }

    public int splice(int tape, int from, int to, int other, int vault) {
        Tape first = tapeOf(tape);
        Tape second = other == -1 ? null : tapeOf(other);
        vaultIs(vault);
        range(from, 0, first.heard.size());
        range(to, from + 1, first.heard.size());
        state(playable(first) && (second == null || playable(second)));
        state(tapes.size() < 30);
        Tape made = new Tape();
        made.isSplice = true;
        made.vault = vault;
        made.generation = first.generation + 1;
        made.heard.addAll(first.heard.subList(from, to));
        made.starts.addAll(first.starts.subList(from, to));
        made.starts.set(0, true);
        if (second != null) {
            made.generation = Math.max(made.generation, second.generation + 1);
            made.heard.addAll(second.heard);
            made.starts.addAll(second.starts);
        }
        state(spans(made) <= 20);
        tapes.add(made);
        return tapes.size() - 1;
    }

    private static int spans(Tape tape) {
        int spans = 0;
        for (boolean start : tape.starts) {
            spans += start ? 1 : 0;
        }
        return spans;
    }

    public int shed(int tape) {
        Tape asked = tapeOf(tape);
        state(asked.how == 0);
        asked.how = 1;
        return 0;
    }

    public int bake(int tape) {
        Tape asked = tapeOf(tape);
        state(asked.how == 1);
        asked.how = 2;
        asked.baked = day;
        return day + 30;
    }

    public int fire(int vault) {
        vaultIs(vault);
        int gone = 0;
        for (Tape tape : tapes) {
            if (tape.vault == vault && tape.how != 3) {
                gone++;
                tape.how = 3;
            }
        }
        return gone;
    }

    public int tapeIs(int tape, int what) {
        Tape asked = tapeOf(tape);
        range(what, 0, 5);
        int[] all = {asked.how, playable(asked) ? 1 : 0, asked.heard.size(), asked.generation,
            asked.vault, spans(asked)};
        return all[what];
    }

    public int heard(int tape, int second) {
        Tape asked = tapeOf(tape);
        range(second, 0, Integer.MAX_VALUE);
        if (second >= asked.heard.size()) {
            return -1;
        }
        return asked.heard.get(second)[0] * 1000 + asked.heard.get(second)[1];
    }

    public int takes(int tape) {
        int set = 0;
        for (int[] heard : tapeOf(tape).heard) {
            set |= 1 << heard[0];
        }
        return set;
    }

    public int takesAnew(int tape) {
        return takes(tape);
    }

    public boolean isLost(int take) {
        index(!tapeOf(take).isSplice);
        for (int i = 0; i < tapes.size(); i++) {
            if (tapes.get(i).how != 3 && (takes(i) >> take & 1) != 0) {
                return false;
            }
        }
        for (int side = 0; side < sides.size(); side++) {
            for (int[] heard : sides.get(side)) {
                if (heard[0] == take && soldOf(side) > 0) {
                    return false;
                }
            }
        }
        return true;
    }

    private int soldOf(int side) {
        int sold = 0;
        for (Sale sale : sales) {
            sold += sale.side == side ? left(sale.pieces) : 0;
        }
        return sold;
    }

    private static int left(List<Piece> pieces) {
        int left = 0;
        for (Piece piece : pieces) {
            left += piece.isBack ? 0 : 1;
        }
        return left;
    }

    public int add(int tape) {
        Tape asked = tapeOf(tape);
        state(playable(asked) && program.size() < 6);
        program.add(asked);
        return program.size();
    }

    public int clear() {
        int had = program.size();
        program = new ArrayList<>();
        return had;
    }

    public int cut(int level) {
        range(level, 1, 5);
        state(!program.isEmpty() && sides.size() < 10);
        List<int[]> heard = new ArrayList<>();
        for (Tape tape : program) {
            state(playable(tape));
            heard.addAll(tape.heard);
        }
        state(heard.size() + 3 * (program.size() - 1) <= 1500 - 150 * level);
        sides.add(heard);
        matrices.add(new Stamper[3][4]);
        program = new ArrayList<>();
        return sides.size() - 1;
    }

    public int seconds(int side, int artist) {
        index(side >= 0 && side < sides.size());
        index(artist >= -1 && artist <= 5);
        int seconds = 0;
        for (int[] heard : sides.get(side)) {
            seconds += artist == -1 || tapes.get(heard[0]).artist == artist ? 1 : 0;
        }
        return seconds;
    }

    public int stamper(int side, int mother, int number) {
        state(stamperOf(side, mother, number) == null);
        Stamper[][] matrix = matrices.get(side);
        if (number > 0) {
            state(matrix[mother][number - 1] != null);
        } else if (mother > 0) {
            int ahead = 0;
            for (Stamper stamper : matrix[mother - 1]) {
                ahead += stamper != null ? 1 : 0;
            }
            state(ahead > 0);
        }
        matrix[mother][number] = new Stamper();
        matrix[mother][number].made = day;
        return stampersOf(side).size();
    }

    public int press(int side, int mother, int number, int discs) {
        Stamper asked = stamperOf(side, mother, number);
        range(discs, 1, 500);
        state(asked != null && asked.pressed + discs <= 500);
        asked.pressed += discs;
        asked.pressings.add(day);
        return asked.pressed;
    }

    public int stamperIs(int side, int mother, int number, int what) {
        Stamper asked = stamperOf(side, mother, number);
        range(what, 0, 4);
        if (asked == null) {
            return what == 1 || what == 2 ? 0 : -1;
        }
        boolean isPressed = !asked.pressings.isEmpty();
        int[] all = {asked.made, asked.pressed, left(asked.sold),
            isPressed ? asked.pressings.get(0) : -1,
            isPressed ? asked.pressings.get(asked.pressings.size() - 1) : -1};
        return all[what];
    }

    public int sell(int side, int mother, int number, int discs) {
        Stamper asked = stamperOf(side, mother, number);
        range(discs, 1, 500);
        state(asked != null && asked.pressed - asked.sold.size() >= discs && sales.size() < 100);
        Sale sale = new Sale();
        sale.side = side;
        sale.rates = new int[6];
        for (int[] contract : contracts) {
            sale.rates[contract[0]] = contract[1];
        }
        for (int i = 0; i < discs; i++) {
            Piece piece = new Piece();
            piece.sale = sales.size();
            sale.pieces.add(piece);
            asked.sold.add(piece);
        }
        sales.add(sale);
        return left(asked.sold);
    }

    public int back(int side, int mother, int number, int discs) {
        Stamper asked = stamperOf(side, mother, number);
        range(discs, 1, 500);
        state(asked != null && unnamed(asked) >= discs);
        int rest = discs;
        for (int i = asked.sold.size() - 1; rest > 0; i--) {
            if (!asked.sold.get(i).isBack) {
                asked.sold.get(i).isBack = true;
                rest--;
            }
        }
        return left(asked.sold);
    }

    /** Which of those that are sold are named is left open: only how many there are counts. */
    private int unnamed(Stamper stamper) {
        int named = 0;
        for (Piece piece : stamper.sold) {
            named += piece.isNamed ? 1 : 0;
        }
        return left(stamper.sold) - named;
    }

    public int disc(int side, int mother, int number) {
        Stamper asked = stamperOf(side, mother, number);
        state(asked != null && unnamed(asked) > 0 && discs.size() < 20);
        for (Piece piece : asked.sold) {
            if (!piece.isNamed) {
                piece.isNamed = true;
                break;
            }
        }
        Disc disc = new Disc();
        disc.side = side;
        discs.add(disc);
        return discs.size() - 1;
    }

    private static int wear(Disc disc) {
        int wear = 0;
        for (int more : disc.plays) {
            wear += more;
        }
        return wear;
    }

    public int play(int disc, int needle, int times) {
        Disc asked = discOf(disc);
        range(needle, 1, 3);
        range(times, 1, 50);
        for (int i = 0; i < times; i++) {
            asked.plays.add(needle);
        }
        return wear(asked);
    }

    public int scratch(int disc, int part) {
        Disc asked = discOf(disc);
        partIs(part);
        asked.scratches.add(part);
        return noise(disc, part);
    }

    public int noise(int disc, int part) {
        Disc asked = discOf(disc);
        partIs(part);
        int noise = Math.floorDiv(wear(asked) * (part + 1), 16);
        for (int scratched : asked.scratches) {
            noise += scratched == part ? 5 : 0;
        }
        return noise;
    }

    public int grade(int disc) {
        discOf(disc);
        int all = 0;
        for (int part = 0; part <= 7; part++) {
            all += noise(disc, part);
        }
        int grade = 0;
        for (int from : new int[] {1, 20, 80, 200}) {
            grade += all >= from ? 1 : 0;
        }
        return grade;
    }

    private List<Integer> members(int set) {
        if (set == 0) {
            throw new IllegalArgumentException();
        }
        List<Integer> members = new ArrayList<>();
        for (int i = 0; i < 32; i++) {
            if ((set & 1 << i) != 0) {
                range(i, 0, discs.size() - 1);
                members.add(i);
            }
        }
        for (int member : members) {
            state(discs.get(member).side == discs.get(members.get(0)).side);
        }
        return members;
    }

    public int join(int set, int part) {
        partIs(part);
        int best = -1;
        for (int member : members(set)) {
            if (best == -1 || noise(member, part) < noise(best, part)) {
                best = member;
            }
        }
        return best;
    }

    public int file(int set) {
        members(set);
        fileNoise = new int[8];
        repairs = new ArrayList<>();
        int all = 0;
        for (int part = 0; part <= 7; part++) {
            fileNoise[part] = noise(join(set, part), part);
            all += fileNoise[part];
        }
        return all;
    }

    public int repair(int part) {
        partIs(part);
        state(fileNoise != null && repairs.size() < 20);
        repairs.add(part);
        return fileIs(part);
    }

    public int undo() {
        state(!repairs.isEmpty());
        return repairs.remove(repairs.size() - 1);
    }

    public int fileIs(int part) {
        partIs(part);
        if (fileNoise == null) {
            return -1;
        }
        int noise = fileNoise[part];
        for (int repaired : repairs) {
            noise = repaired == part ? Math.floorDiv(noise, 2) : noise;
        }
        return noise;
    }

    public int contract(int artist, int rate, int advance) {
        artistIs(artist);
        range(rate, 0, 9999);
        range(advance, 0, 999999);
        contracts.add(new int[] {artist, rate, advance});
        return account(artist);
    }

    public int account(int artist) {
        artistIs(artist);
        BigInteger cents = BigInteger.ZERO;
        for (Sale sale : sales) {
            BigInteger due = BigInteger.valueOf(left(sale.pieces))
                    .multiply(BigInteger.valueOf(sale.rates[artist]))
                    .multiply(BigInteger.valueOf(seconds(sale.side, artist)));
            BigInteger whole = BigInteger.valueOf(100).multiply(BigInteger.valueOf(seconds(sale.side, -1)));
            cents = cents.add(due.divide(whole));
        }
        for (int[] contract : contracts) {
            cents = cents.subtract(BigInteger.valueOf(contract[0] == artist ? contract[2] : 0));
        }
        for (int[] payment : payments) {
            cents = cents.subtract(BigInteger.valueOf(payment[0] == artist ? payment[1] : 0));
        }
        return cents.intValueExact();
    }

    public int accountAnew(int artist) {
        return account(artist);
    }

    public int payOut(int artist) {
        int cents = Math.max(0, account(artist));
        payments.add(new int[] {artist, cents});
        return cents;
    }

    public int pass(int days) {
        range(days, 1, 999);
        state(day + days <= 9999);
        day += days;
        return day;
    }
}
