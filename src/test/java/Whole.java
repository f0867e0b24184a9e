import java.util.function.Supplier;

/** All that objects made alike answer, as a text. Each view has an object of its own, as looking takes calls, too. */
final class Whole {
    private Whole() {
    }

    static String of(Supplier<LeastKnown> made) {
        StringBuilder all = new StringBuilder("NOW ").append(now(made.get()));
        for (int image = 0; image < 2; image++) {
            LeastKnown x = made.get();
            all.append("; IMAGE ").append(x.back(image)).append(' ').append(now(x));
        }
        LeastKnown first = made.get();
        all.append("; at first ").append(first.anew()).append(' ').append(now(first));
        LeastKnown told = made.get();
        all.append("; THE TEXT ").append(told.town()).append(' ').append(now(told));
        return all.toString();
    }

    /** What can be seen of an object, and is not changed by that. */
    static String now(LeastKnown x) {
        StringBuilder all = new StringBuilder();
        for (int what = 0; what < 4; what++) {
            all.append(x.count(what)).append(' ');
        }
        for (int what = 0; what < 3; what++) {
            all.append(x.law(what)).append(' ').append(x.now(what)).append(' ');
        }
        int people = x.count(0);
        for (int a = 0; a < people; a++) {
            all.append('(');
            for (int what = 0; what < 4; what++) {
                all.append(x.person(a, what)).append(' ');
            }
            for (int b = 0; b < people; b++) {
                all.append(a == b ? "." : seen(x.seen(a, b))).append(' ');
            }
            all.append(')');
        }
        return all.append(x.chosen()).append(' ').append(x.trace()).toString();
    }

    private static String seen(int year) {
        return year == LeastKnown.NO ? "-" : Integer.toString(year);
    }
}
