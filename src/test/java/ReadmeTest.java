import java.io.IOException;
import java.lang.reflect.Method;
import java.lang.reflect.Modifier;
import java.nio.file.Files;
import java.nio.file.Path;
import java.util.Map;
import java.util.Set;
import java.util.TreeSet;
import java.util.regex.MatchResult;
import java.util.regex.Matcher;
import java.util.regex.Pattern;

/** README.md tells each call, with its numbers and refusals; its examples hold. Runs in the project's folder. */
public final class ReadmeTest {
    private static final Path README = Path.of("README.md"), DOCUMENT = Path.of("../shared/DOC.md");
    private static final Map<String, Integer> CONSTANTS = Map.of("BAD", LeastKnown.BAD, "STATE", LeastKnown.STATE,
        "FULL", LeastKnown.FULL, "NONE", LeastKnown.NONE, "NO", LeastKnown.NO);
    private static final Pattern EXAMPLE = Pattern.compile("(?m)^x\\.(\\w+)\\((.*?)\\); +// (-?\\d+|[A-Z]+)(:.*)?$");

    public static void main(String[] args) throws IOException, ReflectiveOperationException {
        String readme = Files.readString(README);
        everyCallIsTold(readme, Files.readString(DOCUMENT));
        examplesHold(readme);
        constantsAreTold(readme);
        Checks.end("ReadmeTest");
    }

    /** Each call has a place of its own; the words of refusal there are those of its promise. */
    private static void everyCallIsTold(String readme, String document) {
        Pattern promise = Pattern.compile("(?m)^`(?:int|long) (\\w+\\(.*\\))`: (.*)$");
        int calls = 0;
        Matcher m = promise.matcher(document);
        while (m.find()) {
            calls++;
            String told = toldOf(m.group(1), readme);
            Checks.due("README has " + m.group(1), 1, told.isEmpty() ? 0 : 1);
            Checks.dueSame("refusals of " + m.group(1), words(m.group(2)).toString(), words(told).toString());
        }
        Checks.due("calls of the document", 27, calls);
    }

    /** From the call to the next one, or to the end of that list. */
    private static String toldOf(String call, String readme) {
        int from = readme.indexOf("\n- `" + call + "`");
        if (from < 0) {
            return "";
        }
        int next = readme.indexOf("\n- ", from + 1);
        int end = readme.indexOf("\n\n", from);
        return readme.substring(from, next < 0 ? end : Math.min(next, end));
    }

    private static Set<String> words(String text) {
        Set<String> all = new TreeSet<>();
        Matcher m = Pattern.compile("(?<![\\w-])(BAD|STATE|FULL|NONE|NO|-5|-10)(?!\\w)").matcher(text);
        while (m.find()) {
            all.add(m.group(1));
        }
        return all;
    }

    private static void examplesHold(String readme) throws ReflectiveOperationException {
        Set<String> shown = new TreeSet<>();
        LeastKnown x = new LeastKnown();
        int block = 0;
        for (String line : readme.split("\n")) {
            Matcher example = EXAMPLE.matcher(line);
            if (line.equals("LeastKnown x = new LeastKnown();")) {
                x = new LeastKnown();
                block++;
            } else if (line.startsWith("type(x, \"")) {
                Checks.type(x, line.substring("type(x, \"".length(), line.lastIndexOf('"')));
            } else if (example.matches()) {
                shown.add(example.group(1));
                answers(x, block, example);
            } else {
                Checks.due("no example: " + line, 0, line.startsWith("x.") ? 1 : 0);
            }
        }
        for (Method method : LeastKnown.class.getMethods()) {
            if (method.getDeclaringClass() == LeastKnown.class) {
                Checks.due("an example of " + method.getName(), 1, shown.contains(method.getName()) ? 1 : 0);
            }
        }
    }

    private static void answers(LeastKnown x, int block, MatchResult example) throws ReflectiveOperationException {
        String call = "example " + block + ": " + example.group(1) + "(" + example.group(2) + ")";
        String word = example.group(3);
        long want = CONSTANTS.containsKey(word) ? CONSTANTS.get(word) : Long.parseLong(word);
        Method method = named(example.group(1));
        String[] told = example.group(2).isEmpty() ? new String[0] : example.group(2).split(", ");
        Checks.due("numbers of " + call, method.getParameterCount(), told.length);
        Object[] numbers = new Object[told.length];
        for (int i = 0; i < told.length; i++) {
            long number = Long.decode(told[i].replace("L", ""));
            numbers[i] = method.getParameterTypes()[i] == long.class ? (Object) number : (Object) (int) number;
        }
        Checks.due(call, want, ((Number) method.invoke(x, numbers)).longValue());
    }

    private static Method named(String name) {
        for (Method method : LeastKnown.class.getDeclaredMethods()) {
            if (method.getName().equals(name) && Modifier.isPublic(method.getModifiers())) {
                return method;
            }
        }
        throw new IllegalArgumentException("no call of the face: " + name);
    }

    private static void constantsAreTold(String readme) {
        for (Map.Entry<String, Integer> constant : CONSTANTS.entrySet()) {
            String row = "\n| `" + constant.getKey() + "` | " + constant.getValue() + " | ";
            Checks.due("README has" + row.replace('\n', ' '), 1, readme.contains(row) ? 1 : 0);
        }
    }
}
