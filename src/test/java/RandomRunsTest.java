import java.lang.reflect.InvocationTargetException;
import java.lang.reflect.Method;
import java.util.ArrayList;
import java.util.List;
import java.util.Map;
import java.util.Random;
import java.util.TreeMap;

/**
 * Runs of 512 random calls, of all promises; each answer is compared with that of PlainHouse. Each run
 * has an aim, for which some calls come more often, so that every limit of the document is reached and
 * passed while calls of other promises work on the same house.
 */
public final class RandomRunsTest {
    private static final int RUNS = 1600;
    private static final int CALLS = 512;
    /** Each call with its aim, how often it comes and what its arguments are: see argument(). */
    private static final String[] CALLS_OF_THE_FACE = {
        "session 0 12 artist length vault", "splice 0 30 tape from to other vault", "shed 0 3 tape",
        "bake 0 8 tape", "fire 0 1 fired", "tapeIs 0 14 tape what", "heard 0 14 tape second",
        "takes 0 5 tape", "takesAnew 0 7 tape", "isLost 0 8 tape",
        "add 1 24 tape", "clear 1 1", "cut 1 16 level", "seconds 1 6 side artist",
        "stamper 1 20 side mother number", "press 1 20 side mother number discs",
        "stamperIs 1 12 side mother number what", "sell 3 30 side mother number discs",
        "back 3 20 side mother number discs", "disc 2 14 side mother number",
        "play 2 12 disc needle times", "scratch 2 14 disc part", "noise 2 6 disc part",
        "grade 2 8 disc", "join 2 12 set part", "file 4 3 set", "repair 2 20 part", "undo 2 7",
        "fileIs 2 8 part", "contract 3 12 artist rate advance", "account 3 8 artist",
        "accountAnew 3 8 artist", "payOut 3 6 artist", "pass 1 6 days",
    };
    /** Aims beside those of the calls above: 0 for tapes, 3 for royalties, 4 for nothing but files. */
    private static final int MANY_STAMPERS = 1;
    private static final int MANY_DISCS = 2;
    private static final int MANY_SPANS = 5;
    private static final int MANY_SALES = 6;
    private static final int LAST_DAYS = 7;
    private static final int AIMS = 8;
    private static final Map<Integer, String> CALLS_OF_AN_AIM = Map.of(MANY_STAMPERS, " stamper ",
            MANY_SPANS, " splice ", MANY_SALES, " sell ", LAST_DAYS, " pass bake shed ");
    private static final Map<Integer, String> OPENINGS = Map.of(
            MANY_STAMPERS, "session 3 100 0; add 0; cut 1; stamper 0 0 0",
            MANY_DISCS, "session 0 200 0; session 1 90 1; add 0; cut 1; add 1; cut 2; stamper 0 0 0; "
                    + "stamper 1 0 0; press 0 0 0 90; press 1 0 0 90; sell 0 0 0 40; sell 1 0 0 40",
            MANY_SPANS, "session 0 30 0; session 1 25 1; splice 0 3 30 1 2",
            MANY_SALES, "session 0 300 0; session 1 100 1; add 0; add 1; cut 1; contract 0 777 0; "
                    + "stamper 0 0 0; stamper 0 0 1; stamper 0 1 0; press 0 0 0 200; press 0 0 1 500");
    private static final List<String> LIMITS = List.of("30 tapes", "20 spans", "6 tapes of a program",
            "10 sides", "12 stampers", "500 pressed", "100 sales", "20 discs", "20 repairs", "9999 days");
    private static final Map<String, Integer> SEEN = new TreeMap<>();

    private final Random random;
    private final MatrixHouse house = new MatrixHouse();
    private final PlainHouse plain = new PlainHouse();
    private final int run;
    private final int aim;
    private final boolean isNear;
    private final List<int[]> stampers = new ArrayList<>();
    private final StringBuilder told = new StringBuilder();
    private int calls;

    private RandomRunsTest(int run) {
        this.run = run;
        random = new Random(run);
        aim = run % AIMS;
        isNear = run % 3 != 0;
    }

    public static void main(String[] args) throws Exception {
        boolean isAsDue = true;
        for (int run = 0; run < RUNS && isAsDue; run++) {
            isAsDue = new RandomRunsTest(run).isAsDue();
        }
        // a call that is never answered, and a limit that is never reached, is compared in name only
        for (String call : CALLS_OF_THE_FACE) {
            String name = call.split(" ")[0];
            Due.holds(name + " was answered often", SEEN.getOrDefault(name + " answered", 0) > 500);
        }
        for (String limit : LIMITS) {
            Due.holds(limit + " were reached in some runs", SEEN.getOrDefault(limit, 0) >= 20);
        }
        Due.end("RandomRunsTest");
    }

    private boolean isAsDue() throws Exception {
        int[] weights = new int[CALLS_OF_THE_FACE.length];
        int all = 0;
        for (int i = 0; i < weights.length; i++) {
            all += weight(CALLS_OF_THE_FACE[i].split(" "));
            weights[i] = all;
        }
        for (String opening : OPENINGS.getOrDefault(aim, "").split("; ")) {
            if (!opening.isEmpty() && !isAsDue(opening.split(" ")[0], numbersOf(opening))) {
                return false;
            }
        }
        while (calls < CALLS) {
            int pick = random.nextInt(all);
            int call = 0;
            while (weights[call] <= pick) {
                call++;
            }
            String[] words = CALLS_OF_THE_FACE[call].split(" ");
            if (!isAsDue(words[0], argumentsOf(words))) {
                return false;
            }
        }
        seeLimits();
        return true;
    }

    private int weight(String[] call) {
        int often = Integer.parseInt(call[2]);
        if (CALLS_OF_AN_AIM.getOrDefault(aim, "").contains(" " + call[0] + " ")) {
            return 7 * often;
        }
        return Integer.parseInt(call[1]) == aim ? 4 * often : often;
    }

    private static int[] numbersOf(String call) {
        String[] words = call.split(" ");
        int[] numbers = new int[words.length - 1];
        for (int i = 0; i < numbers.length; i++) {
            numbers[i] = Integer.parseInt(words[i + 1]);
        }
        return numbers;
    }

    private int[] argumentsOf(String[] words) {
        int[] arguments = new int[words.length - 3];
        for (int i = 0; i < arguments.length; i++) {
            arguments[i] = argument(words[i + 3], arguments[0], i > 0 ? arguments[i - 1] : 0);
        }
        // a stamper at random is hardly ever made, pressed and sold: mostly one that is made is taken
        boolean hasStamper = words.length > 5 && words[3].equals("side") && !words[0].equals("stamper");
        if (hasStamper && !stampers.isEmpty() && random.nextInt(6) > 0) {
            int last = Math.min(stampers.size(), 1 + random.nextInt(12)) - 1;
            System.arraycopy(stampers.get(between(0, last)), 0, arguments, 0, 3);
        }
        return arguments;
    }

    private boolean isAsDue(String name, int[] arguments) throws Exception {
        StringBuilder text = new StringBuilder(name);
        Class<?>[] types = new Class<?>[arguments.length];
        Object[] boxed = new Object[arguments.length];
        for (int i = 0; i < types.length; i++) {
            types[i] = int.class;
            boxed[i] = arguments[i];
            text.append(' ').append(arguments[i]);
        }
        String want = answer(PlainHouse.class.getMethod(name, types), plain, boxed);
        String got = answer(MatrixHouse.class.getMethod(name, types), house, boxed);
        boolean isAnswered = !want.contains("Exception");
        if (name.equals("stamper") && isAnswered) {
            stampers.add(arguments);
        }
        calls++;
        SEEN.merge(name + (isAnswered ? " answered" : " refused"), 1, Integer::sum);
        Due.compare("run " + run + ": " + (want.equals(got) ? "" : told) + text, want, got);
        told.append(text).append(" = ").append(want).append("; ");
        return want.equals(got);
    }

    private static String answer(Method method, Object object, Object[] arguments) throws Exception {
        try {
            Object answer = method.invoke(object, arguments);
            return answer == null ? "0" : answer.toString();
        } catch (InvocationTargetException e) {
            return e.getCause().getClass().getName();
        }
    }

    private void seeLimits() {
        for (String limit : LIMITS) {
            int most = Integer.parseInt(limit.substring(0, limit.indexOf(' ')));
            if (plain.reached(limit.substring(limit.indexOf(' ') + 1)) == most) {
                SEEN.merge(limit, 1, Integer::sum);
            }
        }
    }

    private int argument(String kind, int first, int before) {
        if (random.nextInt(150) == 0) {
            int[] wild = {-1, -2, 0, 1, 2, 3, 4, 5, 6, 7, 8, 10, 20, 29, 30, 31, 32, 50, 51, 100, 500, 501,
                900, 901, 999, 1000, 9999, 10000, 999999, 1000000, Integer.MAX_VALUE, Integer.MIN_VALUE};
            return wild[random.nextInt(wild.length)];
        }
        switch (kind) {
            case "artist":
                return about(0, 5);
            case "fired":
                // most fires in one vault, so that some tapes last
                return random.nextInt(4) > 0 ? 3 : about(0, 3);
            case "vault":
                return about(0, 3);
            case "length":
                return isNear ? between(1, 40) : about(1, 900);
            case "tape":
                return aim == MANY_SPANS ? latest(plain.tapeCount()) : about(0, plain.tapeCount() - 1);
            case "other":
                return aim == MANY_SPANS ? latest(plain.tapeCount()) : about(-1, plain.tapeCount() - 1);
            case "from":
                return aim == MANY_SPANS ? between(0, 3) : isNear ? between(0, 10) : between(0, 400);
            case "to":
                return aim == MANY_SPANS ? plain.lengthOf(first) - between(0, 30)
                        : before + (isNear ? between(0, 30) : between(0, 500));
            case "second":
                return isNear ? between(-1, 90) : between(-1, 2000);
            case "what":
                return between(0, 5);
            case "level":
                return about(1, 5);
            case "side":
                return random.nextInt(3) > 0 ? 0 : about(0, plain.sideCount() - 1);
            case "mother":
                return aim != MANY_STAMPERS && random.nextInt(2) > 0 ? 0 : about(0, 2);
            case "number":
                return aim != MANY_STAMPERS && random.nextInt(2) > 0 ? 0 : about(0, 3);
            case "discs":
                return aim == MANY_SALES ? between(1, 4) : isNear ? between(1, 9) : about(1, 60);
            case "disc":
                return about(0, plain.discCount() - 1);
            case "needle":
                return about(1, 3);
            case "times":
                return isNear ? between(1, 4) : about(1, 50);
            case "part":
                return about(0, 7);
            case "set":
                int last = Math.max(1, plain.discCount()) - 1;
                return 1 << between(0, last) | 1 << between(0, last) | random.nextInt(3) / 2 << between(0, last);
            case "rate":
                return isNear ? between(0, 2000) : about(0, 9999);
            case "advance":
                return random.nextInt(2) > 0 ? 0 : between(0, 999);
            case "days":
                return days();
            default:
                throw new IllegalStateException(kind);
        }
    }

    private int days() {
        int left = 9999 - plain.reached("days");
        if (aim == LAST_DAYS) {
            return left < 999 && random.nextInt(4) == 0 ? left + between(-1, 1) : between(1, 60) * between(1, 17);
        }
        return isNear ? between(1, 20) : between(1, 200);
    }

    /** Mostly one of the last ones, and seldom one that there is not. */
    private int latest(int count) {
        return about(random.nextInt(4) > 0 ? Math.max(0, count - 4) : 0, count - 1);
    }

    /** Seldom just outside. */
    private int about(int least, int most) {
        if (random.nextInt(30) == 0) {
            return random.nextInt(2) > 0 ? least - 1 : most + 1;
        }
        return between(least, most);
    }

    private int between(int least, int most) {
        return least + random.nextInt(Math.max(1, most - least + 1));
    }
}
