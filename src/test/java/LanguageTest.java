import java.io.IOException;
import java.lang.reflect.Constructor;
import java.lang.reflect.Field;
import java.lang.reflect.Method;
import java.lang.reflect.Modifier;
import java.nio.file.Files;
import java.nio.file.Path;
import java.util.List;
import java.util.Set;
import java.util.TreeSet;
import java.util.regex.Matcher;
import java.util.regex.Pattern;

/** What of ../shared/LANGUAGE.md can be seen from the source and the face. Runs in the project's folder. */
public final class LanguageTest {
    private static final Path SOURCE = Path.of("src/main/java/LeastKnown.java");
    private static final Set<String> FACE = Set.of(
        "int type(long,int)", "int clear()", "int town()", "int knows(int,int)", "int seen(int,int)",
        "int person(int,int)", "int law(int)", "int rules(int,int)", "int chosen()", "int meet(int,int)",
        "int introduce(int,int,int)", "int moves(int)", "int go(int)", "int now(int)", "int anew()",
        "int reigns(int)", "int ring()", "int brings(int,int,int)", "int days(int,int,int,int)", "int asks(int,int)",
        "int party(int)", "int parties(int)", "int rate(int,int)", "int keep(int)", "int back(int)", "int count(int)",
        "long trace()");
    private static final List<String> RULED_OUT = List.of("\\bthrow\\b", "\\btry\\b", "\\bcatch\\b", "\\bassert\\b",
        "\\bsynchronized\\b", "->", "::", "\\bimport\\b", "\\bpackage\\b", "\" \\+", "\\+ \"", "\\bwhile \\(true\\)",
        "\\bdouble\\b", "\\bfloat\\b", "\\bprotected\\b", "\\bequals\\b", "\\bhashCode\\b", "\\bException\\b");

    public static void main(String[] args) throws IOException {
        String source = Files.readString(SOURCE);
        words(source);
        methodsAreShort(source);
        whatCallsItselfIsPrivateAndStatic(source);
        nothingIsMadeByCalls(source);
        face();
        privateNames();
        Checks.end("LanguageTest");
    }

    private static void words(String source) {
        for (String word : RULED_OUT) {
            Matcher m = Pattern.compile(word).matcher(source);
            Checks.due("places with " + word, 0, m.results().count());
        }
        Checks.due("signs beyond 127", 0, source.chars().filter(c -> c > 127).count());
    }

    private static void methodsAreShort(String source) {
        String[] lines = source.split("\n");
        int[] openedAt = new int[2];
        for (int i = 0; i < lines.length; i++) {
            for (int depth = 0; depth < 2; depth++) {
                String margin = " ".repeat(4 + 4 * depth);
                if (lines[i].matches(margin + "\\S.*\\) \\{")) {
                    openedAt[depth] = i;
                } else if (lines[i].equals(margin + "}") && openedAt[depth] > 0) {
                    Checks.due("a method's lines beyond 60 at line " + (i + 1), 0, Math.max(0, i - openedAt[depth] - 60));
                    openedAt[depth] = 0;
                }
            }
        }
    }

    /** Rule 8. A call with a . ahead is one of another object's method. */
    private static void whatCallsItselfIsPrivateAndStatic(String source) {
        Pattern method = Pattern.compile("(?m)^( {4}| {8})(\\S.*?)(\\w+)\\(.*\\) \\{\n([\\s\\S]*?)^\\1}$");
        int recursions = 0;
        Matcher m = method.matcher(source);
        while (m.find()) {
            if (Pattern.compile("(?<![.\\w])" + m.group(3) + "\\(").matcher(m.group(4)).find()) {
                recursions++;
                Checks.due("private static: " + m.group(3), 1, m.group(2).startsWith("private static ") ? 1 : 0);
            }
        }
        Checks.due("methods that call themselves", 2, recursions);
    }

    private static void nothingIsMadeByCalls(String source) {
        for (String line : source.split("\n")) {
            if (line.contains("new ")) {
                Checks.due("made outside a field's line:" + line, 1, line.matches("    (    )?(private )?(final )?.* = new .*;") ? 1 : 0);
            }
        }
    }

    private static void face() {
        Set<String> seen = new TreeSet<>();
        for (Method method : LeastKnown.class.getDeclaredMethods()) {
            if (Modifier.isPrivate(method.getModifiers())) {
                continue;
            }
            String text = method.toString().replace("public ", "").replace("LeastKnown.", "");
            seen.add(text);
            Checks.due("in the face: " + text, 1, FACE.contains(text) ? 1 : 0);
        }
        Checks.due("methods of the face", FACE.size(), seen.size());
        int constants = 0;
        for (Field field : LeastKnown.class.getDeclaredFields()) {
            if (!Modifier.isPrivate(field.getModifiers())) {
                constants++;
                Checks.due("a constant: " + field, 1, field.toString().startsWith("public static final int") ? 1 : 0);
            }
            if (Modifier.isStatic(field.getModifiers())) {
                Checks.due("final: " + field, 1, Modifier.isFinal(field.getModifiers()) ? 1 : 0);
            }
        }
        Checks.due("constants of the face", 5, constants);
        Constructor<?>[] made = LeastKnown.class.getDeclaredConstructors();
        Checks.due("constructors", 1, made.length);
        Checks.due("public and final", Modifier.PUBLIC | Modifier.FINAL, LeastKnown.class.getModifiers());
    }

    private static void privateNames() {
        Set<String> names = new TreeSet<>();
        FACE.forEach(text -> names.add(text.replaceAll(".* (\\w+)\\(.*", "$1")));
        Set<Class<?>> all = new java.util.HashSet<>(List.of(LeastKnown.class.getDeclaredClasses()));
        Checks.due("classes beyond twelve", 0, Math.max(0, all.size() + 1 - 12));
        for (Class<?> inside : all) {
            Checks.due("static: " + inside, 1, Modifier.isStatic(inside.getModifiers()) ? 1 : 0);
        }
        all.add(LeastKnown.class);
        for (Class<?> type : all) {
            for (Method method : type.getDeclaredMethods()) {
                boolean own = type == LeastKnown.class && Modifier.isPublic(method.getModifiers());
                Checks.due("a name of the face: " + method, 0, !own && names.contains(method.getName()) ? 1 : 0);
                Checks.due("parameters beyond seven: " + method, 0, Math.max(0, method.getParameterCount() - 7));
            }
        }
    }
}
