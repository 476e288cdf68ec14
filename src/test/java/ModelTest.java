import java.lang.reflect.Method;
import java.util.ArrayList;
import java.util.HashMap;
import java.util.List;
import java.util.Map;
import java.util.Random;

/** All promises at random: the class and the model answer the same calls, and each answer and STATUS must be alike. */
public final class ModelTest {
    private static final int RUNS = 200;
    private static final int CALLS = 400;

    private final Random random;
    private final LeapNet net = new LeapNet();
    private final Model model = new Model();
    private final List<String> told = new ArrayList<>();
    private int failed;
    private int focus;
    private int noticeCount;
    private int stampCount;

    private ModelTest(long seed) {
        random = new Random(seed);
    }

    /** Arguments: how many runs, and the first seed. */
    public static void main(String[] args) throws ReflectiveOperationException {
        int runs = args.length > 0 ? Integer.parseInt(args[0]) : RUNS;
        long seed = args.length > 1 ? Long.parseLong(args[1]) : 1;
        for (int i = 0; i < runs; i++) {
            ModelTest test = new ModelTest(seed + i);
            test.run(seed + i);
        }
        Check.end("ModelTest");
    }

    private static final Map<String, Method> METHODS = new HashMap<>();
    private static final Map<String, Method> MODEL_METHODS = new HashMap<>();

    static {
        for (Method method : LeapNet.class.getMethods()) {
            if (method.getDeclaringClass() == LeapNet.class) {
                METHODS.put(method.getName(), method);
            }
        }
        for (Method method : Model.class.getDeclaredMethods()) {
            if (METHODS.containsKey(method.getName())) {
                MODEL_METHODS.put(method.getName(), method);
            }
        }
    }

    private void both(String name, Object... args) throws ReflectiveOperationException {
        String call = name + java.util.Arrays.toString(args);
        long got = number(METHODS.get(name).invoke(net, args));
        long want = number(MODEL_METHODS.get(name).invoke(model, args));
        told.add(call + " -> " + want + " (" + model.status() + ")");
        Check.due(call, got, want);
        Check.due(call + ", status()", net.status(), model.status());
        if (got != want || net.status() != model.status()) {
            failed++;
        }
    }

    private static long number(Object answer) {
        if (answer instanceof Boolean) {
            return (Boolean) answer ? 1 : 0;
        }
        return ((Number) answer).longValue();
    }

    private void run(long seed) throws ReflectiveOperationException {
        focus = random.nextInt(4);
        stampCount = 86_400 * (focus + 1) - 1 - random.nextInt(4);
        if (chance(85)) {
            begin();
        }
        for (int i = 0; i < CALLS && failed == 0; i++) {
            one();
        }
        if (failed > 0) {
            System.out.println("seed " + seed + ":\n  " + String.join("\n  ", told));
            System.exit(1);
        }
    }

    /** Some CLOCKS that are told of one DAY, rightly or not, so that much hangs on it. */
    private void begin() throws ReflectiveOperationException {
        both("leap", focus, chance(70) ? 1 : -1);
        both("server", random.nextInt(16));
        both("server", random.nextInt(16));
        int clocks = 2 + random.nextInt(6);
        for (int i = 0; i < clocks; i++) {
            both("clock", random.nextInt(4));
            if (chance(60)) {
                both("notice", random.nextInt(2), i, focus, chance(80) ? 1 : -1, 0);
            }
        }
    }

    private boolean chance(int percent) {
        return random.nextInt(100) < percent;
    }

    private int pick(int... numbers) {
        return numbers[random.nextInt(numbers.length)];
    }

    private int odd(int usual) {
        return chance(4) ? pick(-1, Integer.MIN_VALUE, Integer.MAX_VALUE, 41, 901_000_000, usual + 1, -usual) : usual;
    }

    private int near() {
        if (chance(50)) {
            return focus;
        }
        return chance(90) ? random.nextInt(7) : pick(0, 364, 365, 366, 9_998, 9_999, 10_000, -1);
    }

    private int count() {
        if (chance(4)) {
            return pick(-1, 0, 900_000_000, 900_000_001, 899_990_000, 899_990_001, random.nextInt(900_000_000));
        }
        int day = chance(60) ? focus + 1 : chance(95) ? random.nextInt(9) : random.nextInt(10_000);
        return Math.max(0, 86_400 * day + (chance(70) ? random.nextInt(13) - 6 : random.nextInt(86_400)));
    }

    /** NOTICES and STAMPS come at COUNTS that rise; now and then one does not. */
    private int noticeCount() {
        noticeCount += chance(90) ? random.nextInt(4) : random.nextInt(43_200);
        return chance(97) ? noticeCount : pick(-1, 0, noticeCount - 1, noticeCount - 50_000);
    }

    private int stampCount() {
        stampCount += chance(95) ? random.nextInt(3) : random.nextInt(86_400);
        return chance(97) ? stampCount : pick(-1, 0, stampCount - 1, stampCount - 5);
    }

    private int clockNumber() {
        return odd(random.nextInt(5));
    }

    private void one() throws ReflectiveOperationException {
        int kind = random.nextInt(30);
        switch (kind) {
            case 0:
                both("tray", odd(random.nextInt(4)), odd(random.nextInt(4)), odd(random.nextInt(15)));
                break;
            case 1:
                both("read", odd(random.nextInt(4)), odd(random.nextInt(12)));
                both("write", odd(random.nextInt(4)), odd(random.nextInt(12)), random.nextLong());
                break;
            case 2:
                both("pour", odd(random.nextInt(4)), odd(random.nextInt(6)), odd(random.nextInt(4)),
                    odd(random.nextInt(6)), odd(random.nextInt(6)));
                break;
            case 3:
                both("leap", odd(near()), odd(random.nextInt(3) - 1));
                break;
            case 4:
                both("civil", count(), odd(random.nextInt(2)));
                both("count", odd(near()), pick(0, 86_398, 86_399, 86_400, 86_401, random.nextInt(86_400)));
                break;
            case 5:
                both(chance(50) ? "clock" : "server", odd(random.nextInt(4)));
                break;
            case 6:
                both("step", clockNumber(), count());
                break;
            case 7:
            case 8:
                both("shows", clockNumber(), count());
                both("ahead", clockNumber(), count());
                break;
            case 9:
                both("off", clockNumber(), clockNumber(), count());
                break;
            case 10:
                worst();
                break;
            case 11:
                rules();
                break;
            case 12:
                both("told", random.nextInt(8), odd(random.nextInt(4)));
                break;
            case 13:
            case 14:
            case 15:
            case 16:
                both("notice", odd(random.nextInt(3)), clockNumber(), odd(near()), odd(chance(70) ? 1 : -1),
                    noticeCount());
                break;
            case 17:
            case 18:
                both("told", odd(random.nextInt(20)), odd(random.nextInt(4)));
                both("table", clockNumber(), odd(near()));
                both("misses", clockNumber());
                break;
            case 19:
            case 20:
                both("stamp", clockNumber(), stampCount());
                break;
            case 21:
                both("wrong");
                both("blamed", odd(random.nextInt(3)));
                break;
            case 22:
                program();
                break;
            case 23:
            case 24:
                both("run", clockNumber(), count());
                for (int i = 0; i < 3; i++) {
                    both("ran", odd(i));
                    both("kept", odd(random.nextInt(45)));
                }
                break;
            case 25:
                answers();
                break;
            case 26:
                find();
                break;
            default:
                lands();
                break;
        }
    }

    private void worst() throws ReflectiveOperationException {
        int from = count();
        int to = chance(90) ? from + random.nextInt(60) : from + pick(-1, 2_000, 2_001);
        both("worst", from, to, odd(0));
        both("worst", from, to, odd(1));
    }

    private void feed(String text) throws ReflectiveOperationException {
        for (int i = 0; i < text.length(); i += 20) {
            Object[] fives = {0, 0, 0, 0, 0};
            for (int k = 0; k < 20; k++) {
                int b = i + k < text.length() ? text.charAt(i + k) : ' ';
                fives[k / 4] = (Integer) fives[k / 4] << 8 | b;
            }
            both("feed", fives);
        }
    }

    private void rules() throws ReflectiveOperationException {
        StringBuilder text = new StringBuilder();
        List<String> names = new ArrayList<>();
        int defs = chance(8) ? 11 : 1 + random.nextInt(3);
        for (int i = 0; i < defs; i++) {
            boolean isBelieve = i == defs - 1 ? chance(90) : chance(20);
            String name = isBelieve ? "believe" : chance(95) ? "d" + (char) ('a' + i) : word(names);
            text.append(name).append(blank()).append(':').append(whole(names, defs > 5 ? 9 : 1));
            text.append(";").append(blank());
            names.add(name);
        }
        String made = spoil(text.toString());
        feed(made);
        both("rules", chance(96) ? made.length() : pick(-1, 0, 3, made.length() + 1, 600), odd(near()));
        both("fault", 0);
        both("fault", 1);
    }

    private String blank() {
        return chance(80) ? "" : chance(50) ? " " : "\n";
    }

    private String spoil(String text) {
        String made = text.length() > 500 ? text.substring(0, 500) : text;
        if (chance(75) || made.isEmpty()) {
            return made;
        }
        int at = random.nextInt(made.length());
        String[] bits = {"", "#", "(", ")", " ", "7", "if", " then ", " else ", " not ", " and ", ":", ";", "=", "zz",
            "1234567", "((((((((", ",", "{", "}", ".", "least(", " most", "a", "\u00e9"};
        String bit = bits[random.nextInt(bits.length)];
        String spoilt = made.substring(0, at) + bit + made.substring(chance(50) ? at : at + 1);
        return spoilt.length() > 500 ? spoilt.substring(0, 500) : spoilt;
    }

    private String word(List<String> names) {
        String[] words = {"server", "stratum", "ahead", "kind", "alike", "against", "way", "clock", "day", "month",
            "year"};
        if (!names.isEmpty() && chance(40)) {
            return names.get(random.nextInt(names.size()));
        }
        return chance(97) ? words[random.nextInt(words.length)] : "abcdefghi".substring(random.nextInt(8));
    }

    private String whole(List<String> names, int depth) {
        if (chance(depth < 4 ? 50 : 12)) {
            return "if " + test(names, depth) + " then " + whole(names, depth + 1) + " else " + whole(names, depth + 1);
        }
        return sum(names, depth);
    }

    private String test(List<String> names, int depth) {
        StringBuilder test = new StringBuilder(one(names, depth));
        String joint = chance(50) ? " and " : " or ";
        for (int i = 0; i < 2 && chance(30); i++) {
            test.append(chance(97) ? joint : " or ").append(one(names, depth));
        }
        return test.toString();
    }

    private String one(List<String> names, int depth) {
        String not = chance(20) ? " not " : "";
        return not + sum(names, depth) + blank() + "<>=".charAt(random.nextInt(3)) + sum(names, depth);
    }

    private String sum(List<String> names, int depth) {
        StringBuilder sum = new StringBuilder(atom(names, depth));
        for (int i = 0; i < 3 && chance(25); i++) {
            sum.append("+-*/%".charAt(random.nextInt(5))).append(atom(names, depth));
        }
        return sum.toString();
    }

    private String atom(List<String> names, int depth) {
        if (chance(12)) {
            return "(" + blank() + whole(names, depth + 1) + ")";
        }
        if (chance(8)) {
            return (chance(50) ? "least" : "most") + "(" + sum(names, depth + 1) + "," + sum(names, depth + 1) + ")";
        }
        return chance(40) ? "" + random.nextInt(4) : " " + word(names) + " ";
    }

    private void program() throws ReflectiveOperationException {
        String made = chance(10) ? linesTillEver() : spoil(lines(0));
        feed(made);
        both("program", chance(96) ? made.length() : pick(-1, 0, 3, made.length() + 1));
        both("fault", 0);
        both("fault", 1);
    }

    /** LINES that are over at about the 5,000th COUNT, and some behind them. */
    private String linesTillEver() {
        StringBuilder lines = new StringBuilder(lines(2)).append("wait 3600;");
        return lines.append("wait ").append(1_380 + random.nextInt(24)).append(";").append(lines(2)).toString();
    }

    private String lines(int agains) {
        StringBuilder lines = new StringBuilder();
        int many = chance(3) ? 42 : 1 + random.nextInt(5);
        for (int i = 0; i < many; i++) {
            int kind = random.nextInt(5);
            if (kind == 0) {
                int seconds = chance(92) ? 1 + random.nextInt(5) : pick(0, 1000, 2500, 3600, 3601);
                lines.append("wait ").append(seconds).append(";");
            } else if (kind == 1) {
                lines.append(chance(60) ? "until 23:59:" : "until " + random.nextInt(24) + ":0:")
                    .append(chance(97) ? 59 - random.nextInt(3) : 60).append(";");
            } else if (kind == 2) {
                lines.append("stamp;");
            } else if (kind == 3) {
                lines.append("parse ").append(new String[] {"refuse", "fold", "take"}[random.nextInt(3)]).append(";");
            } else if (agains < 4 && chance(60)) {
                lines.append("again ").append(chance(95) ? 2 + random.nextInt(4) : 20 + random.nextInt(2)).append("{")
                    .append(lines(agains + 1)).append("}");
            }
        }
        return lines.toString();
    }

    private void answers() throws ReflectiveOperationException {
        int many = 1 + random.nextInt(12);
        long spread = pick(6, 30, 200);
        both("tray", 0, 2, many);
        both("tray", 1, 3, many);
        long shift = chance(90) ? 0 : pick(-999_990, 999_900);
        for (int i = 0; i < many; i++) {
            long least = shift + random.nextInt((int) spread);
            both("write", 0, i, least);
            both("write", 1, i, least + (chance(97) ? random.nextInt(8) : -1));
        }
        both("answers", odd(0), odd(1), odd(many));
        both("span", odd(0));
        both("span", odd(1));
        for (int k = 0; k < many; k++) {
            both("lies", odd(k));
        }
    }

    private void find() throws ReflectiveOperationException {
        int many = 1 + random.nextInt(3);
        both("tray", 2, 2, many);
        both("tray", 3, 2, many);
        for (int i = 0; i < many; i++) {
            long second = pick(0, 1, 2, 43_200, 86_399, 86_400, 86_400, 86_401);
            long shown = second == 86_400 ? pick(0, 86_400_000, 86_399_000, 86_399_999)
                : 1000 * second - random.nextInt(2) - (chance(20) ? 1000 : 0);
            both("write", 2, i, second);
            both("write", 3, i, shown);
        }
        both("find", odd(2), odd(3), odd(many));
        both("ask");
    }

    private void lands() throws ReflectiveOperationException {
        int from = random.nextInt(5);
        both("land", odd(random.nextInt(4)), odd(pick(0, -720, 840, random.nextInt(1_560) - 720)), odd(from),
            odd(chance(80) ? from + random.nextInt(4) : pick(364, 365)));
        both("local", odd(random.nextInt(4)), count());
        int day = pick(near(), 365 + near());
        int minute = pick(0, 59, 60, 119, 120, 179, 180, 1_439, random.nextInt(1_440));
        both("oft", odd(random.nextInt(4)), odd(day), odd(minute));
    }
}
