import java.nio.charset.StandardCharsets;
import java.util.function.IntPredicate;
import java.util.function.IntToLongFunction;

/** What the tests have in common: it counts what was asked, and prints what was not as due. */
final class Check {
    private static int asked;
    private static int failed;
    private static String about = "";

    private Check() {
    }

    /** What is told ahead of each answer that is not as due. */
    static void about(String what) {
        about = what;
    }

    static void due(String call, long got, long want) {
        asked++;
        if (got != want) {
            failed++;
            System.out.println(about + call + " answered " + got + ", due is " + want);
        }
    }

    static void due(String call, boolean got, boolean want) {
        due(call, got ? 1 : 0, want ? 1 : 0);
    }

    /** The answer of a call and the STATUS behind it. */
    static void due(LeapNet x, String call, long got, long want, int status) {
        due(call, got, want);
        due(call + ", status()", x.status(), status);
    }

    static void refused(LeapNet x, String call, long got, int status) {
        due(x, call, got, LeapNet.NONE, status);
    }

    static void refused(LeapNet x, String call, boolean got, int status) {
        due(call, got, false);
        due(call + ", status()", x.status(), status);
    }

    static void taken(LeapNet x, String call, boolean got) {
        due(call, got, true);
        due(call + ", status()", x.status(), 0);
    }

    /** A number that a call takes from the least to the greatest, and refuses one below, one above, and far off. */
    static void range(LeapNet x, String call, IntToLongFunction calling, int least, int greatest, int status) {
        for (int number : new int[] {least, greatest}) {
            calling.applyAsLong(number);
            due(call + " of " + number + ", status()", x.status(), 0);
        }
        for (int number : new int[] {least - 1, greatest + 1, Integer.MIN_VALUE, Integer.MAX_VALUE}) {
            refused(x, call + " of " + number, calling.applyAsLong(number), status);
        }
    }

    /** Likewise of a call that tells by a boolean whether it was taken. */
    static void rangeTaken(LeapNet x, String call, IntPredicate calling, int least, int greatest, int status) {
        for (int number : new int[] {least, greatest}) {
            taken(x, call + " of " + number, calling.test(number));
        }
        for (int number : new int[] {least - 1, greatest + 1, Integer.MIN_VALUE, Integer.MAX_VALUE}) {
            refused(x, call + " of " + number, calling.test(number), status);
        }
    }

    /** Lays a text on the tape, with blanks behind it up to the next 20 bytes. */
    static void feed(LeapNet x, String text) {
        byte[] bytes = text.getBytes(StandardCharsets.ISO_8859_1);
        for (int i = 0; i < bytes.length; i += 20) {
            int[] fives = new int[5];
            for (int k = 0; k < 20; k++) {
                int b = i + k < bytes.length ? bytes[i + k] & 255 : ' ';
                fives[k / 4] = fives[k / 4] << 8 | b;
            }
            x.feed(fives[0], fives[1], fives[2], fives[3], fives[4]);
        }
    }

    static int rules(LeapNet x, String text, int from) {
        feed(x, text);
        return x.rules(text.length(), from);
    }

    static int program(LeapNet x, String text) {
        feed(x, text);
        return x.program(text.length());
    }

    static void fill(LeapNet x, int tray, int sort, long... numbers) {
        x.tray(tray, sort, numbers.length);
        for (int i = 0; i < numbers.length; i++) {
            x.write(tray, i, numbers[i]);
        }
    }

    /** The last call of every test: ends it with 1, if an answer was not as due. */
    static void end(String name) {
        System.out.println(name + ": " + asked + " answers, " + failed + " not as due");
        if (failed > 0 || asked == 0) {
            System.exit(1);
        }
    }
}
