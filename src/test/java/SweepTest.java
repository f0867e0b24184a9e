import java.util.ArrayList;
import java.util.List;
import java.util.function.ToLongFunction;

/**
 * Each call with each row of numbers at the bounds, on objects at the bounds (no PEOPLE .. eight, YEAR 0 .. 99, THE
 * TEXT empty .. full, no IMAGE .. both), compared with the Model; what is refused, and what only looks, changes nothing.
 */
public final class SweepTest {
    private static final int MIN = Integer.MIN_VALUE, MAX = Integer.MAX_VALUE;
    // So few that looking at all of an object behind them stays below its 512 calls.
    private static final int BATCH = 120;

    /** A call on either. */
    private record Call(String name, ToLongFunction<LeastKnown> x, ToLongFunction<Model> model, boolean looks) {
    }

    private final int people;
    private final int year;
    private final String text;
    private final int images;
    private final List<Call> calls = new ArrayList<>();

    private SweepTest(int people, int year, String text, int images) {
        this.people = people;
        this.year = year;
        this.text = text;
        this.images = images;
    }

    public static void main(String[] args) {
        int[] sizes = {0, 1, 2, 5, 8};
        for (int people : sizes) {
            new SweepTest(people, 0, "", 0).run();
            new SweepTest(people, 4, "person;law just 3;", 1).run();
            new SweepTest(people, 98, " ".repeat(394) + ";", 2).run();
            new SweepTest(people, 99, " ".repeat(393) + "person;", 3).run();
        }
        Checks.end("SweepTest");
    }

    private void run() {
        addPeople();
        addYears();
        addForetold();
        addKinds();
        List<Call> quiet = new ArrayList<>();
        for (Call call : calls) {
            Model model = model();
            long want = call.model.applyAsLong(model);
            Checks.due(this + call.name, want, call.x.applyAsLong(made(List.of())));
            // A RATE of -1 is no refusal; those of rate() that are refused are marked as such.
            boolean refused = !call.name.startsWith("rate") && want < 0;
            if (call.looks || refused) {
                quiet.add(call);
            }
        }
        String ahead = Whole.of(() -> made(List.of()));
        for (int from = 0; from < quiet.size(); from += BATCH) {
            List<Call> batch = quiet.subList(from, Math.min(quiet.size(), from + BATCH));
            Checks.dueSame(this + batch.get(0).name + " and those behind it", ahead, Whole.of(() -> made(batch)));
        }
    }

    @Override
    public String toString() {
        return people + " PEOPLE, YEAR " + year + ", " + text.length() + " bytes, IMAGES " + images + ": ";
    }

    /** What was told: some KNOW one another, one CALLS. */
    private String town() {
        String pairs = people < 2 ? "" : "knows 1 0;calls 0 1;" + (people < 5 ? "" : "mutual 2 3;knows 4 1;knows 2 4;");
        return Checks.people(people) + pairs + "forgets 6;law never;";
    }

    private LeastKnown made(List<Call> calls) {
        LeastKnown x = Checks.told(town());
        if (year > 0) {
            x.go(year);
        }
        for (int image = 0; image < 2; image++) {
            if ((images >> image & 1) == 1) {
                x.keep(image);
            }
        }
        x.meet(0, 1);
        x.rules(1, 0);
        Checks.type(x, text);
        calls.forEach(call -> call.x.applyAsLong(x));
        return x;
    }

    private Model model() {
        Model model = new Model();
        type(model, town());
        model.town();
        if (year > 0) {
            model.go(year);
        }
        for (int image = 0; image < 2; image++) {
            if ((images >> image & 1) == 1) {
                model.keep(image);
            }
        }
        model.meet(0, 1);
        model.rules(1, 0);
        type(model, text);
        return model;
    }

    private static void type(Model model, String text) {
        for (int i = 0; i < text.length(); i++) {
            model.type(text.charAt(i), 1);
        }
    }

    private void looks(String name, ToLongFunction<LeastKnown> x, ToLongFunction<Model> model) {
        calls.add(new Call(name, x, model, true));
    }

    private void changes(String name, ToLongFunction<LeastKnown> x, ToLongFunction<Model> model) {
        calls.add(new Call(name, x, model, false));
    }

    /** Numbers of PEOPLE, and those next to them. */
    private int[] ones() {
        return new int[] {-1, 0, 1, people - 1, people, people + 1, 8, MIN, MAX};
    }

    /** Numbers from 0 to a greatest one, and those next to them. */
    private static int[] to(int most) {
        int[] all = new int[most + 5];
        for (int i = 0; i <= most + 2; i++) {
            all[i] = i - 1;
        }
        all[most + 3] = MIN;
        all[most + 4] = MAX;
        return all;
    }

    private void addPeople() {
        for (int n : to(9)) {
            changes("type(59, " + n + ")", x -> x.type(59, n), m -> m.type(59, n));
            changes("type(-1, " + n + ")", x -> x.type(-1L, n), m -> m.type(-1L, n));
        }
        changes("clear()", x -> x.clear(), m -> m.clear());
        changes("town()", x -> x.town(), m -> m.town());
        for (int a : ones()) {
            for (int b : ones()) {
                looks("knows(" + a + ", " + b + ")", x -> x.knows(a, b), m -> m.knows(a, b));
                looks("seen(" + a + ", " + b + ")", x -> x.seen(a, b), m -> m.seen(a, b));
                changes("meet(" + a + ", " + b + ")", x -> x.meet(a, b), m -> m.meet(a, b));
            }
            for (int what : to(3)) {
                looks("person(" + a + ", " + what + ")", x -> x.person(a, what), m -> m.person(a, what));
            }
        }
        for (int law : to(3)) {
            looks("law(" + law + ")", x -> x.law(law), m -> m.law(law));
            for (int j : to(7)) {
                changes("rules(" + law + ", " + j + ")", x -> x.rules(law, j), m -> m.rules(law, j));
            }
        }
    }

    private void addYears() {
        looks("chosen()", x -> x.chosen(), m -> m.chosen());
        int[] few = {-1, 0, 1, people - 1, people, MAX};
        for (int a : few) {
            for (int b : few) {
                for (int c : few) {
                    changes("introduce(" + a + ", " + b + ", " + c + ")", x -> x.introduce(a, b, c),
                        m -> m.introduce(a, b, c));
                }
            }
        }
        for (int p : ones()) {
            changes("moves(" + p + ")", x -> x.moves(p), m -> m.moves(p));
        }
        int[] springs = {MIN, -1, 0, 1, 2, 94, 95, 96, 98, 99, 100, 101, MAX};
        for (int n : springs) {
            changes("go(" + n + ")", x -> x.go(n), m -> m.go(n));
        }
        for (int what : to(2)) {
            looks("now(" + what + ")", x -> x.now(what), m -> m.now(what));
        }
        changes("anew()", x -> x.anew(), m -> m.anew());
    }

    private void addForetold() {
        for (int n : to(40)) {
            looks("reigns(" + n + ")", x -> x.reigns(n), m -> m.reigns(n));
        }
        looks("ring()", x -> x.ring(), m -> m.ring());
        int[] few = {-1, 0, people - 1, people, MAX};
        for (int p : few) {
            for (int would : to(1)) {
                for (int i : new int[] {-2, -1, 0, 2, 3, MIN, MAX}) {
                    looks("brings(" + p + ", " + would + ", " + i + ")", x -> x.brings(p, would, i),
                        m -> m.brings(p, would, i));
                }
                addDays(p, would);
            }
            for (int j : to(8)) {
                looks("asks(" + p + ", " + j + ")", x -> x.asks(p, j), m -> m.asks(p, j));
            }
        }
        int[] sets = {0, 1, 2, 3, 7, 15, 31, 255, 256, 257, 1 << 30, MIN, -1, MAX, ~255};
        for (int set : sets) {
            looks("party(" + set + ")", x -> x.party(set), m -> m.party(set));
        }
        for (int what : to(1)) {
            looks("parties(" + what + ")", x -> x.parties(what), m -> m.parties(what));
        }
    }

    private void addDays(int f, int would) {
        int[] days = {MIN, -1, 0, 1, 2, 3, 4, MAX};
        for (int k : days) {
            for (int what : new int[] {-1, 0, 1, 2}) {
                looks("days(" + k + ", " + f + ", " + would + ", " + what + ")", x -> x.days(k, f, would, what),
                    m -> m.days(k, f, would, what));
            }
        }
    }

    private void addKinds() {
        for (int kind : to(5)) {
            for (int p : ones()) {
                calls.add(new Call("rate(" + kind + ", " + p + ")", x -> x.rate(kind, p), m -> m.rate(kind, p),
                    kind < 0 || kind > 5 || p < 0 || p >= people));
            }
        }
        for (int image : to(1)) {
            changes("keep(" + image + ")", x -> x.keep(image), m -> m.keep(image));
            changes("back(" + image + ")", x -> x.back(image), m -> m.back(image));
        }
        for (int what : to(3)) {
            looks("count(" + what + ")", x -> x.count(what), m -> m.count(what));
        }
        looks("trace()", x -> x.trace(), m -> m.trace());
    }
}
