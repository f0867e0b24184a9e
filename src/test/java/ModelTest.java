import java.util.Random;

/** Runs of calls by fixed seeds, on LeastKnown and on the Model: ordinary towns, broken texts, wild numbers. */
public final class ModelTest {
    private static final int RUNS = 500, CALLS = 160;
    private static final int[] WILD = {-1, 8, 9, 10, 40, 41, 99, 100, 255, 256, -2, 64, 1 << 30,
        Integer.MIN_VALUE, Integer.MAX_VALUE, -1000000};
    private static final String[] PIECES = {"person", "knows", "mutual", "calls", "forgets", "law", "least", "second",
        "just", "never", ";", ";", " ", "0", "1", "2", "7", "8", "10", "01", "100", "a", "\u0000", "\u00ff", "K", "-"};

    private final Random random;
    private final LeastKnown x = new LeastKnown();
    private final Model model = new Model();

    private ModelTest(int seed) {
        random = new Random(seed);
    }

    public static void main(String[] args) {
        for (int seed = 0; seed < RUNS; seed++) {
            new ModelTest(seed).run("run " + seed);
        }
        Checks.end("ModelTest");
    }

    private void run(String name) {
        tell(name, town());
        for (int i = 0; i < CALLS; i++) {
            call(name + ", call " + i, random.nextInt(28));
        }
    }

    private int number(int below) {
        return random.nextInt(12) == 0 ? WILD[random.nextInt(WILD.length)] : random.nextInt(below);
    }

    private int one() {
        return number(Math.max(1, model.count(0)));
    }

    private String town() {
        int n = random.nextInt(9);
        StringBuilder text = new StringBuilder("person;".repeat(n));
        int pairs = n < 2 ? 0 : random.nextInt(n * 3);
        for (int i = 0; i < pairs; i++) {
            item(text, random.nextInt(3) == 0 ? "mutual" : "knows", n, random.nextInt(n));
        }
        for (int a = 0; a < n && n > 1; a++) {
            if (random.nextInt(3) == 0) {
                item(text, "calls", n, a);
            }
        }
        if (random.nextInt(3) > 0) {
            text.append("forgets").append(random.nextInt(10)).append(';');
        }
        if (random.nextInt(4) > 0) {
            String[] laws = {"least", "second", "just " + random.nextInt(8), "never"};
            text.append("law ").append(laws[random.nextInt(4)]).append(';');
        }
        if (random.nextInt(4) == 0) {
            spoil(text);
        }
        return text.toString();
    }

    private void item(StringBuilder text, String word, int n, int a) {
        int b = (a + 1 + random.nextInt(n - 1)) % n;
        text.append(word).append(' ').append(a).append(" ".repeat(1 + random.nextInt(2))).append(b).append(';');
    }

    private void spoil(StringBuilder text) {
        int changes = 1 + random.nextInt(3);
        for (int i = 0; i < changes; i++) {
            int place = random.nextInt(text.length() + 1);
            if (random.nextBoolean()) {
                text.insert(place, PIECES[random.nextInt(PIECES.length)]);
            } else {
                text.delete(place, Math.min(text.length(), place + 1 + random.nextInt(3)));
            }
        }
    }

    private void tell(String name, String text) {
        for (int from = 0; from < text.length(); from += 8) {
            String part = text.substring(from, Math.min(text.length(), from + 8));
            long v = random.nextLong();
            for (int i = 0; i < part.length(); i++) {
                v = v << 8 | part.charAt(i);
            }
            Checks.due(name + ": type", model.type(v, part.length()), x.type(v, part.length()));
        }
        Checks.due(name + ": town() of " + text, model.town(), x.town());
    }

    private void call(String name, int which) {
        switch (which / 7) {
            case 0: callPeople(name, which); break;
            case 1: callYears(name, which); break;
            case 2: callForetold(name, which); break;
            default: callKinds(name, which);
        }
    }

    private void callPeople(String name, int which) {
        int a = one();
        int b = one();
        int what = number(4);
        switch (which) {
            case 0: Checks.due(name + " knows", model.knows(a, b), x.knows(a, b)); break;
            case 1: Checks.due(name + " seen", model.seen(a, b), x.seen(a, b)); break;
            case 2: Checks.due(name + " person", model.person(a, what), x.person(a, what)); break;
            case 3: Checks.due(name + " law", model.law(what), x.law(what)); break;
            case 4: {
                int j = what == 2 ? number(8) : number(2);
                Checks.due(name + " rules", model.rules(what, j), x.rules(what, j));
                break;
            }
            case 5: Checks.due(name + " chosen", model.chosen(), x.chosen()); break;
            default:
                if (random.nextInt(4) == 0) {
                    Checks.due(name + " clear", model.clear(), x.clear());
                    tell(name, town());
                }
        }
    }

    private void callYears(String name, int which) {
        int a = one();
        int b = one();
        int c = one();
        int n = random.nextInt(5) == 0 ? number(100) : number(4);
        switch (which) {
            case 7: Checks.due(name + " meet", model.meet(a, b), x.meet(a, b)); break;
            case 8: Checks.due(name + " introduce", model.introduce(a, b, c), x.introduce(a, b, c)); break;
            case 9: Checks.due(name + " moves", model.moves(a), x.moves(a)); break;
            case 10: case 11: Checks.due(name + " go", model.go(n), x.go(n)); break;
            case 12: Checks.due(name + " now", model.now(n), x.now(n)); break;
            default:
                if (random.nextInt(3) == 0) {
                    Checks.due(name + " anew", model.anew(), x.anew());
                }
        }
    }

    private void callForetold(String name, int which) {
        int p = one();
        int would = number(2);
        int what = number(2);
        int n = number(41);
        switch (which) {
            case 14: Checks.due(name + " reigns", model.reigns(n), x.reigns(n)); break;
            case 15: Checks.due(name + " ring", model.ring(), x.ring()); break;
            case 16: {
                int i = number(4) - 1;
                Checks.due(name + " brings", model.brings(p, would, i), x.brings(p, would, i));
                break;
            }
            case 17: {
                int k = 1 + number(3);
                Checks.due(name + " days", model.days(k, p, would, what), x.days(k, p, would, what));
                break;
            }
            case 18: {
                int j = number(9);
                Checks.due(name + " asks", model.asks(p, j), x.asks(p, j));
                break;
            }
            case 19: {
                int set = random.nextInt(4) == 0 ? random.nextInt() : number(256);
                Checks.due(name + " party", model.party(set), x.party(set));
                break;
            }
            default: Checks.due(name + " parties", model.parties(what), x.parties(what));
        }
    }

    private void callKinds(String name, int which) {
        int p = one();
        int what = number(4);
        int image = number(2);
        switch (which) {
            case 21: case 22: {
                int kind = number(6);
                Checks.due(name + " rate", model.rate(kind, p), x.rate(kind, p));
                break;
            }
            case 23: Checks.due(name + " keep", model.keep(image), x.keep(image)); break;
            case 24: Checks.due(name + " back", model.back(image), x.back(image)); break;
            case 25: case 26: Checks.due(name + " count", model.count(what), x.count(what)); break;
            default: Checks.due(name + " trace", model.trace(), x.trace());
        }
    }
}
