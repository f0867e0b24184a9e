import java.nio.charset.StandardCharsets;
import java.util.ArrayList;
import java.util.Arrays;
import java.util.List;
import java.util.Map;
import java.util.TreeMap;
import java.util.TreeSet;
import java.util.regex.Matcher;
import java.util.regex.Pattern;

/** The document once more, slowly and in other words: by maps and sets, copies, a regular expression. */
final class Model {
    private static final Pattern TOKEN = Pattern.compile("[a-z]+|[0-9]+|;|[^ ]", Pattern.DOTALL);
    private static final List<String> WORDS = List.of("person", "knows", "mutual", "calls", "forgets", "law",
        "least", "second", "just", "never");
    private static final List<String> LAWS = List.of("least", "second", "just", "never");

    /** NOW: of each pair (a * 10 + b) that KNOWS, the YEAR in which it was SEEN. */
    private static final class State {
        Map<Integer, Integer> seen = new TreeMap<>();
        int[] reigned = new int[8];
        int year = 0;
        int last = -9;

        State copy() {
            State other = new State();
            other.seen = new TreeMap<>(seen);
            other.reigned = reigned.clone();
            other.year = year;
            other.last = last;
            return other;
        }
    }

    private String text = "";
    private int people = 0;
    private TreeSet<Integer> toldPairs = new TreeSet<>();
    private Map<Integer, Integer> habits = new TreeMap<>();
    private int forgets = 0;
    private int law = 0;
    private int just = 2;
    private State now = new State();
    private final State[] images = new State[2];
    private long trace = 0;

    // ---- people

    int type(long v, int n) {
        if (n < 1 || n > 8) {
            return -1;
        }
        if (text.length() + n > 400) {
            return -3;
        }
        byte[] bytes = new byte[n];
        for (int i = 0; i < n; i++) {
            bytes[n - 1 - i] = (byte) (v >>> 8 * i);
        }
        text += new String(bytes, StandardCharsets.ISO_8859_1);
        return text.length();
    }

    int clear() {
        int had = text.length();
        text = "";
        return had;
    }

    /** A list of the TOKENS of one ITEM, ahead of its ; is checked by the ITEMS that were told ahead of it. */
    int town() {
        List<String> tokens = new ArrayList<>();
        List<Integer> places = new ArrayList<>();
        Matcher m = TOKEN.matcher(text);
        while (m.find()) {
            tokens.add(m.group());
            places.add(m.start());
        }
        Model other = new Model();
        boolean hasLaw = false;
        boolean hasForgets = false;
        int items = 0;
        List<String> item = new ArrayList<>();
        for (int i = 0; i < tokens.size(); i++) {
            String t = tokens.get(i);
            item.add(t);
            if (!other.stands(item, hasLaw, hasForgets)) {
                return -10 - places.get(i);
            }
            if (t.equals(";")) {
                other.tell(item);
                hasLaw |= item.get(0).equals("law");
                hasForgets |= item.get(0).equals("forgets");
                item.clear();
                items++;
            }
        }
        if (!item.isEmpty()) {
            return -10 - text.length();
        }
        people = other.people;
        toldPairs = other.toldPairs;
        habits = other.habits;
        forgets = other.forgets;
        law = other.law;
        just = other.just;
        text = "";
        anew();
        images[0] = null;
        images[1] = null;
        return items;
    }

    /** Whether the last TOKEN of a begun ITEM can stand there, as those ahead of it can. */
    private boolean stands(List<String> item, boolean hasLaw, boolean hasForgets) {
        int i = item.size() - 1;
        String t = item.get(i);
        String head = item.get(0);
        if (Character.isLetter(t.charAt(0)) && !WORDS.contains(t)) {
            return false;
        }
        if (i == 0) {
            return switch (t) {
                case "person" -> people < 8;
                case "knows", "mutual", "calls" -> true;
                case "forgets" -> !hasForgets;
                case "law" -> !hasLaw;
                default -> false;
            };
        }
        switch (head) {
            case "person":
                return t.equals(";");
            case "forgets":
                return i == 1 ? within(t, 9) : t.equals(";");
            case "law":
                if (i == 1) {
                    return LAWS.contains(t);
                }
                return item.get(1).equals("just") && i == 2 ? within(t, 7) : t.equals(";");
            default:
                if (i == 1) {
                    return within(t, people - 1)
                        && !(head.equals("calls") && habits.containsKey(Integer.parseInt(t)));
                }
                return i == 2 ? within(t, people - 1) && !t.equals(item.get(1)) : t.equals(";");
        }
    }

    private static boolean within(String t, int most) {
        return t.matches("[1-9]?[0-9]") && Integer.parseInt(t) <= most;
    }

    private void tell(List<String> item) {
        switch (item.get(0)) {
            case "person": people++; break;
            case "forgets": forgets = Integer.parseInt(item.get(1)); break;
            case "law":
                law = LAWS.indexOf(item.get(1));
                if (law == 2) {
                    just = Integer.parseInt(item.get(2));
                }
                break;
            default:
                int a = Integer.parseInt(item.get(1));
                int b = Integer.parseInt(item.get(2));
                if (item.get(0).equals("calls")) {
                    habits.put(a, b);
                } else {
                    toldPairs.add(a * 10 + b);
                    if (item.get(0).equals("mutual")) {
                        toldPairs.add(b * 10 + a);
                    }
                }
        }
    }

    private boolean bad(int... ps) {
        for (int i = 0; i < ps.length; i++) {
            if (ps[i] < 0 || ps[i] >= people) {
                return true;
            }
            for (int j = 0; j < i; j++) {
                if (ps[i] == ps[j]) {
                    return true;
                }
            }
        }
        return false;
    }

    private static boolean beyond(int n, int least, int most) {
        return n < least || n > most;
    }

    int knows(int a, int b) {
        return bad(a, b) ? -1 : now.seen.containsKey(a * 10 + b) ? 1 : 0;
    }

    int seen(int a, int b) {
        return bad(a, b) ? -1000000 : now.seen.getOrDefault(a * 10 + b, -1000000);
    }

    private int known(State s, int p) {
        int n = 0;
        for (int pair : s.seen.keySet()) {
            n += pair % 10 == p ? 1 : 0;
        }
        return n;
    }

    private int knowing(int p) {
        int n = 0;
        for (int pair : now.seen.keySet()) {
            n += pair / 10 == p ? 1 : 0;
        }
        return n;
    }

    int person(int p, int what) {
        if (bad(p) || beyond(what, 0, 3)) {
            return -1;
        }
        return new int[] {known(now, p), knowing(p), habits.getOrDefault(p, -9), now.reigned[p]}[what];
    }

    int law(int what) {
        return beyond(what, 0, 2) ? -1 : new int[] {law, just, forgets}[what];
    }

    int rules(int newLaw, int j) {
        if (beyond(newLaw, 0, 3) || newLaw != 2 && j != 0 || beyond(j, 0, 7)) {
            return -1;
        }
        int was = law;
        law = newLaw;
        just = newLaw == 2 ? j : just;
        return was;
    }

    // ---- years

    private List<Integer> byCount(State s) {
        List<Integer> all = new ArrayList<>();
        for (int p = 0; p < people; p++) {
            all.add(p);
        }
        all.sort((p, q) -> known(s, p) != known(s, q) ? known(s, p) - known(s, q) : p - q);
        return all;
    }

    private int choice(State s) {
        List<Integer> all = byCount(s);
        if (law == 1 && people > 1) {
            return all.get(1);
        }
        if (law == 2) {
            for (int p : all) {
                if (known(s, p) == just) {
                    return p;
                }
            }
        }
        if (law == 3) {
            for (int p : all) {
                if (s.reigned[p] == 0) {
                    return p;
                }
            }
        }
        return all.get(0);
    }

    int chosen() {
        return people == 0 ? -2 : choice(now);
    }

    private static void meeting(State s, int a, int b) {
        s.seen.put(a * 10 + b, s.year);
        s.seen.put(b * 10 + a, s.year);
    }

    int meet(int a, int b) {
        if (bad(a, b)) {
            return -1;
        }
        int ahead = now.seen.size();
        meeting(now, a, b);
        return now.seen.size() - ahead;
    }

    int introduce(int a, int b, int c) {
        if (bad(a, b, c)) {
            return -1;
        }
        if (!now.seen.containsKey(a * 10 + c)) {
            return -2;
        }
        return now.seen.put(b * 10 + c, now.year) == null ? 1 : 0;
    }

    int moves(int p) {
        if (bad(p)) {
            return -1;
        }
        int ahead = known(now, p);
        now.seen.keySet().removeIf(pair -> pair % 10 == p);
        return ahead;
    }

    private void spring(State s) {
        habits.forEach((a, b) -> meeting(s, a, b));
        int ruler = choice(s);
        s.last = ruler;
        s.reigned[ruler]++;
        for (int a = 0; a < people; a++) {
            if (a != ruler) {
                s.seen.put(a * 10 + ruler, s.year);
            }
        }
        if (forgets > 0) {
            s.seen.values().removeIf(then -> s.year - then >= forgets);
        }
        s.year++;
    }

    int go(int n) {
        if (beyond(n, 1, 99)) {
            return -1;
        }
        if (now.year == 99 || people == 0) {
            return -2;
        }
        for (int i = 0; i < n && now.year < 99; i++) {
            spring(now);
        }
        return now.last;
    }

    int now(int what) {
        return beyond(what, 0, 2) ? -1 : new int[] {now.year, now.last, now.seen.size()}[what];
    }

    int anew() {
        int was = now.year;
        now = new State();
        toldPairs.forEach(pair -> now.seen.put(pair, -1));
        return was;
    }

    // ---- foretold

    int reigns(int n) {
        if (beyond(n, 0, 40)) {
            return -1;
        }
        if (people == 0) {
            return -2;
        }
        State s = now.copy();
        for (int i = 0; i <= n; i++) {
            spring(s);
        }
        return s.last;
    }

    int ring() {
        if (people == 0) {
            return -2;
        }
        int[] rulers = new int[40];
        for (int t = 20; t < 40; t++) {
            rulers[t] = reigns(t);
        }
        for (int p = 1; p <= 10; p++) {
            if (Arrays.equals(rulers, 20, 40 - p, rulers, 20 + p, 40)) {
                return p;
            }
        }
        return -9;
    }

    /** All rows of so many pairs, going up, in the order in which they are looked through. */
    private void rows(int many, List<Integer> begun, List<List<Integer>> all) {
        if (begun.size() == many) {
            all.add(new ArrayList<>(begun));
            return;
        }
        int from = begun.isEmpty() ? 0 : begun.get(begun.size() - 1) + 1;
        for (int pair = from; pair < 10 * people; pair++) {
            if (pair / 10 < pair % 10 && pair % 10 < people) {
                begun.add(pair);
                rows(many, begun, all);
                begun.remove(begun.size() - 1);
            }
        }
    }

    int brings(int p, int would, int i) {
        if (bad(p) || beyond(would, 0, 1) || beyond(i, -1, 2)) {
            return -1;
        }
        for (int many = 0; many <= 3; many++) {
            List<List<Integer>> all = new ArrayList<>();
            rows(many, new ArrayList<>(), all);
            for (List<Integer> row : all) {
                State s = now.copy();
                row.forEach(pair -> meeting(s, pair / 10, pair % 10));
                if ((choice(s) == p ? 1 : 0) == would) {
                    return i < 0 ? many : i < many ? row.get(i) : -5;
                }
            }
        }
        return -9;
    }

    int days(int k, int f, int would, int what) {
        if (beyond(k, 1, 3) || bad(f) || beyond(would, 0, 1) || beyond(what, 0, 1)) {
            return -1;
        }
        return play(now, k, f, would)[what];
    }

    /** What the one whose turn it is does with so many days left, and who is CHOSEN. */
    private int[] play(State s, int left, int turn, int would) {
        if (left == 0) {
            return new int[] {-9, choice(s)};
        }
        List<int[]> ends = new ArrayList<>();
        for (int b = -1; b < people; b++) {
            if (b != turn) {
                State then = s.copy();
                if (b >= 0) {
                    meeting(then, turn, b);
                }
                ends.add(new int[] {b < 0 ? -9 : b, play(then, left - 1, (turn + 1) % people, would)[1]});
            }
        }
        for (int[] end : ends) {
            if ((end[1] == turn ? 1 : 0) == would) {
                return end;
            }
        }
        return ends.get(0);
    }

    int asks(int p, int j) {
        if (bad(p) || beyond(j, 0, 8)) {
            return -1;
        }
        List<Integer> others = new ArrayList<>();
        for (int q = 0; q < people; q++) {
            if (q != p) {
                others.add(q);
            }
        }
        for (int asked = 0; ; asked++) {
            int yes = 0;
            for (int q : others.subList(0, asked)) {
                yes += now.seen.containsKey(q * 10 + p) ? 1 : 0;
            }
            if (yes >= j || yes + others.size() - asked < j) {
                return asked;
            }
        }
    }

    int party(int set) {
        State s = now.copy();
        for (int a = 0; a < people; a++) {
            for (int b = 0; b < a; b++) {
                if ((set >> a & 1) == 1 && (set >> b & 1) == 1) {
                    meeting(s, a, b);
                }
            }
        }
        return s.seen.keySet().equals(now.seen.keySet()) ? 1 : 0;
    }

    int parties(int what) {
        if (beyond(what, 0, 1)) {
            return -1;
        }
        TreeSet<Integer> sets = new TreeSet<>((a, b) -> Integer.bitCount(a) != Integer.bitCount(b)
            ? Integer.bitCount(b) - Integer.bitCount(a) : a - b);
        for (int set = 0; set < 1 << people; set++) {
            if (Integer.bitCount(set) > 1 && party(set) == 1) {
                sets.add(set);
            }
        }
        return what == 0 ? sets.size() : sets.isEmpty() ? 0 : sets.first();
    }

    // ---- kinds, images

    int rate(int kind, int p) {
        if (beyond(kind, 0, 5) || bad(p)) {
            return -1000000;
        }
        int[] above = {-1, 0, 0, 2, 1, 0};
        int up = above[kind] < 0 ? 0 : rate(above[kind], p);
        trace += new int[] {1, 10, 100, 1000, 10000, 100000}[kind];
        return new int[] {known(now, p), up - knowing(p), up + now.reigned[p], 2 * up, up + p, up - now.year}[kind];
    }

    int keep(int image) {
        if (beyond(image, 0, 1)) {
            return -1;
        }
        images[image] = now.copy();
        return now.year;
    }

    int back(int image) {
        if (beyond(image, 0, 1)) {
            return -1;
        }
        if (images[image] == null) {
            return -2;
        }
        now = images[image].copy();
        return now.year;
    }

    int count(int what) {
        return beyond(what, 0, 3) ? -1 : new int[] {people, now.seen.size(), habits.size(), text.length()}[what];
    }

    long trace() {
        return trace;
    }
}
