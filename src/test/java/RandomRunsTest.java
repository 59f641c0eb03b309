import java.lang.reflect.InvocationTargetException;
import java.lang.reflect.Method;
import java.util.ArrayList;
import java.util.List;
import java.util.Map;
import java.util.Random;
import java.util.TreeMap;

/** Runs of 512 random calls, of all promises; each answer is compared with that of PlainHouse. */
public final class RandomRunsTest {
    private static final int RUNS = 1500;
    private static final int CALLS = 512;
    /** Each call with its group, how often it comes and what its arguments are: see argument(). */
    private static final String[] CALLS_OF_THE_FACE = {
        "session 0 12 artist length vault", "splice 0 30 tape from to other vault", "shed 0 3 tape",
        "bake 0 8 tape", "fire 0 1 fired", "tapeIs 0 14 tape what", "heard 0 14 tape second",
        "takes 0 5 tape", "takesAnew 0 7 tape", "isLost 0 8 tape",
        "add 1 24 tape", "clear 1 1", "cut 1 16 level", "seconds 1 6 side artist",
        "stamper 1 20 side mother number", "press 1 20 side mother number discs",
        "stamperIs 1 12 side mother number what", "sell 3 30 side mother number discs",
        "back 3 20 side mother number discs", "disc 2 14 side mother number",
        "play 2 12 disc needle times", "scratch 2 14 disc part", "noise 2 6 disc part",
        "grade 2 8 disc", "join 2 12 set part", "file 2 3 set", "repair 2 20 part", "undo 2 7",
        "fileIs 2 8 part", "contract 3 12 artist rate advance", "account 3 8 artist",
        "accountAnew 3 8 artist", "payOut 3 6 artist", "pass 1 6 days",
    };
    private static final int GROUPS = 4;

    private final Random random;
    private final MatrixHouse house = new MatrixHouse();
    private final PlainHouse plain = new PlainHouse();
    private final boolean isNear;
    private final List<Object[]> stampers = new ArrayList<>();
    private final StringBuilder told = new StringBuilder();
    private static final Map<String, Integer> SEEN = new TreeMap<>();

    private RandomRunsTest(long seed) {
        random = new Random(seed);
        isNear = seed % 3 != 0;
    }

    public static void main(String[] args) throws Exception {
        for (int run = 0; run < RUNS; run++) {
            if (!new RandomRunsTest(run).run(run)) {
                break;
            }
        }
        // a call that was never answered, or never refused, would be compared in name only
        for (String call : CALLS_OF_THE_FACE) {
            String name = call.split(" ")[0];
            Due.holds(name + " was answered often", SEEN.getOrDefault(name + " answered", 0) > 500);
        }
        Due.end("RandomRunsTest");
    }

    private boolean run(int run) throws Exception {
        int[] weights = new int[CALLS_OF_THE_FACE.length];
        int all = 0;
        for (int i = 0; i < weights.length; i++) {
            String[] call = CALLS_OF_THE_FACE[i].split(" ");
            int often = Integer.parseInt(call[2]);
            all += Integer.parseInt(call[1]) == run % (GROUPS + 1) ? 4 * often : often;
            weights[i] = all;
        }
        for (int i = 0; i < CALLS; i++) {
            int pick = random.nextInt(all);
            int call = 0;
            while (weights[call] <= pick) {
                call++;
            }
            if (!compare(run, CALLS_OF_THE_FACE[call].split(" "))) {
                return false;
            }
        }
        return true;
    }

    private boolean compare(int run, String[] call) throws Exception {
        Class<?>[] types = new Class<?>[call.length - 3];
        Object[] arguments = new Object[types.length];
        StringBuilder text = new StringBuilder(call[0]);
        for (int i = 0; i < types.length; i++) {
            types[i] = int.class;
            arguments[i] = argument(call[i + 3], i > 0 ? (int) arguments[i - 1] : 0);
            text.append(' ').append(arguments[i]);
        }
        useMadeStamper(call, arguments, text);
        String want = answer(PlainHouse.class.getMethod(call[0], types), plain, arguments);
        String got = answer(MatrixHouse.class.getMethod(call[0], types), house, arguments);
        if (call[0].equals("stamper") && want.equals(got) && !want.contains("Exception")) {
            stampers.add(arguments);
        }
        told.append(text).append(" = ").append(want).append("; ");
        SEEN.merge(call[0] + (want.contains("Exception") ? " refused" : " answered"), 1, Integer::sum);
        Due.compare("run " + run + ": " + (want.equals(got) ? "" : told) + text, want, got);
        return want.equals(got);
    }

    /** A stamper at random is hardly ever made, pressed and sold: mostly one that is made is taken. */
    private void useMadeStamper(String[] call, Object[] arguments, StringBuilder text) {
        boolean hasStamper = call.length > 5 && call[3].equals("side") && !call[0].equals("stamper");
        if (hasStamper && !stampers.isEmpty() && random.nextInt(6) > 0) {
            int last = Math.min(stampers.size(), 1 + random.nextInt(12)) - 1;
            System.arraycopy(stampers.get(between(0, last)), 0, arguments, 0, 3);
            text.setLength(call[0].length());
            for (Object argument : arguments) {
                text.append(' ').append(argument);
            }
        }
    }

    private static String answer(Method method, Object object, Object[] arguments) throws Exception {
        try {
            Object answer = method.invoke(object, arguments);
            return answer == null ? "0" : answer.toString();
        } catch (InvocationTargetException e) {
            return e.getCause().getClass().getName();
        }
    }

    private int argument(String kind, int before) {
        if (random.nextInt(150) == 0) {
            int[] wild = {-1, -2, 0, 1, 2, 3, 4, 5, 6, 7, 8, 10, 20, 29, 30, 31, 32, 50, 51, 100, 500, 501,
                900, 901, 999, 1000, 9999, 10000, 999999, 1000000, Integer.MAX_VALUE, Integer.MIN_VALUE};
            return wild[random.nextInt(wild.length)];
        }
        switch (kind) {
            case "artist":
                return between(0, 5);
            case "fired":
                // most fires in one vault, so that some tapes last
                return random.nextInt(4) > 0 ? 3 : between(0, 3);
            case "vault":
                return between(0, 3);
            case "length":
                return isNear ? between(1, 40) : between(1, 900);
            case "tape":
                return between(0, plain.tapeCount() - (random.nextInt(20) > 0 ? 1 : 0));
            case "other":
                return between(-1, plain.tapeCount() - 1);
            case "from":
                return isNear ? between(0, 10) : between(0, 400);
            case "to":
                return before + (isNear ? between(0, 30) : between(0, 500));
            case "second":
                return isNear ? between(-1, 90) : between(-1, 2000);
            case "what":
                return between(0, 5);
            case "level":
                return between(1, 5);
            case "side":
                return random.nextInt(3) > 0 ? 0 : between(0, plain.sideCount());
            case "mother":
                return random.nextInt(2) > 0 ? 0 : between(0, 2);
            case "number":
                return random.nextInt(2) > 0 ? 0 : between(0, 3);
            case "discs":
                return isNear ? between(1, 9) : between(1, 60);
            case "disc":
                return between(0, plain.discCount() - (random.nextInt(20) > 0 ? 1 : 0));
            case "needle":
                return between(1, 3);
            case "times":
                return isNear ? between(1, 4) : between(1, 50);
            case "part":
                return between(0, 7);
            case "set":
                int last = Math.max(1, plain.discCount()) - 1;
                return 1 << between(0, last) | 1 << between(0, last) | random.nextInt(3) / 2 << between(0, last);
            case "rate":
                return isNear ? between(0, 2000) : between(0, 9999);
            case "advance":
                return random.nextInt(2) > 0 ? 0 : between(0, 999);
            case "days":
                return isNear ? between(1, 20) : between(1, 200);
            default:
                throw new IllegalStateException(kind);
        }
    }

    private int between(int least, int most) {
        return least + random.nextInt(Math.max(1, most - least + 1));
    }
}
