/** Promises 24 to 28: kinds, IMAGES, counts, THE TRACE. */
public final class KindsTest {
    private static final int MIN = Integer.MIN_VALUE, MAX = Integer.MAX_VALUE;

    public static void main(String[] args) {
        rate();
        keepAndBack();
        count();
        Checks.end("KindsTest");
    }

    private static void rate() {
        LeastKnown x = Checks.told(Checks.people(4) + "mutual 0 1;knows 2 3;knows 3 1;knows 3 0;");
        x.go(3);
        int p = 3;
        int known = x.person(p, 0);
        int knows = x.person(p, 1);
        int reigned = x.person(p, 3);
        int[] want = {known, known - knows, known + reigned, 2 * (known + reigned), known - knows + p, known - 3};
        int[] traced = {1, 11, 101, 1101, 10011, 100001};
        long trace = 0;
        for (int kind = 0; kind < 6; kind++) {
            Checks.due("rate(" + kind + ", 3)", want[kind], x.rate(kind, p));
            trace += traced[kind];
            Checks.due("trace()", trace, x.trace());
        }
        Checks.due("by hand: COUNT", 3, known);
        Checks.due("by hand: KNOWS", 3, knows);
        Checks.due("by hand: reigned", 1, reigned);
        int[][] bad = {{6, 0}, {-1, 0}, {0, 4}, {0, -1}, {MIN, 0}, {0, MAX}, {9, 9}};
        for (int[] row : bad) {
            Checks.due("rate", LeastKnown.NO, x.rate(row[0], row[1]));
        }
        Checks.due("no trace of what is refused", trace, x.trace());
        Checks.due("trace() adds nothing", trace, x.trace());
        Checks.due("no PEOPLE", LeastKnown.NO, new LeastKnown().rate(0, 0));
    }

    private static void keepAndBack() {
        LeastKnown x = Checks.told(Checks.people(4) + "knows 0 1;calls 1 2;forgets 4;");
        int[] bad = {2, -1, MIN, MAX};
        for (int image : bad) {
            Checks.due("keep(" + image + ")", LeastKnown.BAD, x.keep(image));
            Checks.due("back(" + image + ")", LeastKnown.BAD, x.back(image));
        }
        Checks.due("none was kept", LeastKnown.STATE, x.back(0));
        x.go(2);
        Checks.due("keep(1)", 2, x.keep(1));
        Checks.due("only one was", LeastKnown.STATE, x.back(0));
        String then = Checks.knowledge(x);
        int last = x.now(1);
        int reigned = x.person(last, 3);
        int seen = x.seen(2, 1);
        x.go(5);
        x.moves(0);
        x.meet(0, 3);
        x.rules(3, 0);
        x.rate(0, 0);
        Checks.type(x, "law");
        Checks.due("keep(0)", 7, x.keep(0));
        String behind = Checks.knowledge(x);
        Checks.due("back(1)", 2, x.back(1));
        Checks.dueKnowledge("back(1)", then, x);
        Checks.due("YEAR", 2, x.now(0));
        Checks.due("last", last, x.now(1));
        Checks.due("reigned", reigned, x.person(last, 3));
        Checks.due("SEEN", seen, x.seen(2, 1));
        Checks.due("LAW stays", 3, x.law(0));
        Checks.due("THE TRACE goes on", 1, x.trace());
        Checks.due("THE TEXT stays", 3, x.count(3));
        x.meet(0, 2);
        x.go(1);
        Checks.due("back(1), once more", 2, x.back(1));
        Checks.dueKnowledge("an IMAGE does not change", then, x);
        Checks.due("back(0)", 7, x.back(0));
        Checks.dueKnowledge("back(0)", behind, x);
        Checks.due("keep(0) over it", 7, x.keep(0));
        neverAgain();
        LeastKnown none = new LeastKnown();
        Checks.due("no PEOPLE", 0, none.keep(0));
        Checks.due("no PEOPLE", 0, none.back(0));
    }

    private static void neverAgain() {
        LeastKnown x = Checks.told(Checks.people(3) + "law never;");
        x.keep(0);
        x.go(2);
        Checks.due("two have reigned", 2, x.chosen());
        x.back(0);
        Checks.due("nobody has", 0, x.chosen());
        Checks.due("last", LeastKnown.NONE, x.now(1));
    }

    private static void count() {
        LeastKnown x = Checks.told(Checks.people(5) + "knows 0 1;mutual 1 2;calls 0 4;calls 4 3;");
        Checks.type(x, "person");
        Checks.due("PEOPLE", 5, x.count(0));
        Checks.due("pairs", 3, x.count(1));
        Checks.due("HABITS", 2, x.count(2));
        Checks.due("bytes", 6, x.count(3));
        Checks.due("count(4)", LeastKnown.BAD, x.count(4));
        Checks.due("count(-1)", LeastKnown.BAD, x.count(-1));
        Checks.due("count(MIN)", LeastKnown.BAD, x.count(MIN));
        x.meet(0, 1);
        Checks.due("pairs", 4, x.count(1));
        x.moves(1);
        Checks.due("pairs", 2, x.count(1));
    }
}
