import java.nio.charset.StandardCharsets;
import java.util.function.Supplier;
import java.util.function.ToLongFunction;

/** What every test needs: comparing answers, typing texts. */
final class Checks {
    private static int right = 0;
    private static int wrong = 0;
    private static int sentences = 0;
    private static String sentence = "";

    private Checks() {
    }

    static void due(String call, long want, long got) {
        if (got == want) {
            right++;
            return;
        }
        wrong++;
        if (wrong <= 50) {
            System.out.println(sentence + call + " answered " + got + ", due is " + want);
        }
    }

    static void dueSame(String what, String want, String got) {
        int place = 0;
        while (place < Math.min(want.length(), got.length()) && want.charAt(place) == got.charAt(place)) {
            place++;
        }
        due(what + " [.." + from(got, place) + "; due .." + from(want, place) + "]", 1, got.equals(want) ? 1 : 0);
    }

    private static String from(String text, int place) {
        return text.substring(Math.max(0, place - 30), Math.min(text.length(), place + 30));
    }

    /** The test of one sentence of the document, told by its words where it does not hold. */
    static void sentence(String words, Runnable test) {
        sentence = "\"" + words + "\": ";
        sentences++;
        int ahead = right + wrong;
        try {
            test.run();
        } catch (RuntimeException | StackOverflowError thrown) {
            due("a call threw " + thrown, 0, 1);
        }
        due("something is tested", 1, right + wrong > ahead ? 1 : 0);
        sentence = "";
    }

    /** A call that is refused: what it answers; nothing changes, whatever object of these it comes to. */
    static void refused(String call, long want, Supplier<LeastKnown> made, ToLongFunction<LeastKnown> refusal) {
        due(call, want, refusal.applyAsLong(made.get()));
        Supplier<LeastKnown> behind = () -> {
            LeastKnown x = made.get();
            refusal.applyAsLong(x);
            return x;
        };
        dueSame("all behind " + call, Whole.of(made), Whole.of(behind));
    }

    static void type(LeastKnown x, String text) {
        byte[] bytes = text.getBytes(StandardCharsets.ISO_8859_1);
        for (int from = 0; from < bytes.length; from += 8) {
            int n = Math.min(8, bytes.length - from);
            x.type(packed(bytes, from, n), n);
        }
    }

    /** At most eight bytes as type() takes them, the highest of them first. */
    static long packed(String text) {
        byte[] bytes = text.getBytes(StandardCharsets.ISO_8859_1);
        return packed(bytes, 0, bytes.length);
    }

    private static long packed(byte[] bytes, int from, int n) {
        long v = 0;
        for (int i = 0; i < n; i++) {
            v = v << 8 | bytes[from + i] & 255;
        }
        return v;
    }

    /** A new object that a text without FAULT has told. */
    static LeastKnown told(String text) {
        LeastKnown x = new LeastKnown();
        type(x, text);
        int items = x.town();
        if (items < 0) {
            due("town() of " + text, 0, items);
        }
        return x;
    }

    static String people(int n) {
        return "person;".repeat(n);
    }

    /** Who KNOWS whom, as a row of digits for each one. */
    static String knowledge(LeastKnown x) {
        StringBuilder all = new StringBuilder();
        for (int a = 0; a < x.count(0); a++) {
            for (int b = 0; b < x.count(0); b++) {
                all.append(a == b ? '.' : x.knows(a, b) == 1 ? '1' : '0');
            }
            all.append(' ');
        }
        return all.toString().trim();
    }

    static void dueKnowledge(String call, String want, LeastKnown x) {
        dueSame(call, want, knowledge(x));
    }

    /** Ends the test's run: exit code 1, if an answer was not as due. */
    static void end(String test) {
        String told = sentences == 0 ? "" : sentences + " sentences, ";
        System.out.println(test + ": " + told + right + " answers as due, " + wrong + " not");
        if (wrong != 0 || right == 0) {
            System.exit(1);
        }
    }
}
