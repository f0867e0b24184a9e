import java.nio.charset.StandardCharsets;

/** What every test needs: comparing answers, typing texts. */
final class Checks {
    private static int right = 0;
    private static int wrong = 0;

    private Checks() {
    }

    static void due(String call, long want, long got) {
        if (got == want) {
            right++;
            return;
        }
        wrong++;
        if (wrong <= 50) {
            System.out.println(call + " answered " + got + ", due is " + want);
        }
    }

    static void type(LeastKnown x, String text) {
        byte[] bytes = text.getBytes(StandardCharsets.ISO_8859_1);
        for (int from = 0; from < bytes.length; from += 8) {
            int n = Math.min(8, bytes.length - from);
            long v = 0;
            for (int i = 0; i < n; i++) {
                v = v << 8 | bytes[from + i] & 255;
            }
            x.type(v, n);
        }
    }

    /** A new object that a text without FAULT has told. */
    static LeastKnown told(String text) {
        LeastKnown x = new LeastKnown();
        type(x, text);
        int items = x.town();
        if (items < 0) {
            due("town() of " + text, 0, items);
        }
        return x;
    }

    static String people(int n) {
        return "person;".repeat(n);
    }

    /** Who KNOWS whom, as a row of digits for each one. */
    static String knowledge(LeastKnown x) {
        StringBuilder all = new StringBuilder();
        for (int a = 0; a < x.count(0); a++) {
            for (int b = 0; b < x.count(0); b++) {
                all.append(a == b ? '.' : x.knows(a, b) == 1 ? '1' : '0');
            }
            all.append(' ');
        }
        return all.toString().trim();
    }

    static void dueKnowledge(String call, String want, LeastKnown x) {
        String got = knowledge(x);
        due(call + " [" + got + ", due " + want + "]", 1, got.equals(want) ? 1 : 0);
    }

    /** Ends the test's run: exit code 1, if an answer was not as due. */
    static void end(String test) {
        System.out.println(test + ": " + right + " answers as due, " + wrong + " not");
        if (wrong != 0 || right == 0) {
            System.exit(1);
        }
    }
}
