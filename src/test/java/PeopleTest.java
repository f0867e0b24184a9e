/** Promises 1 and 5 to 9: a new object, who KNOWS whom, the LAW. */
public final class PeopleTest {
    private static final int MIN = Integer.MIN_VALUE, MAX = Integer.MAX_VALUE;

    public static void main(String[] args) {
        newObject();
        knows();
        seen();
        person();
        law();
        rules();
        Checks.end("PeopleTest");
    }

    private static void newObject() {
        LeastKnown x = new LeastKnown();
        for (int what = 0; what < 4; what++) {
            Checks.due("count(" + what + ")", 0, x.count(what));
        }
        Checks.due("law(0)", 0, x.law(0));
        Checks.due("law(1)", 2, x.law(1));
        Checks.due("law(2)", 0, x.law(2));
        Checks.due("now(0)", 0, x.now(0));
        Checks.due("now(1)", LeastKnown.NONE, x.now(1));
        Checks.due("now(2)", 0, x.now(2));
        Checks.due("trace()", 0, x.trace());
        Checks.due("back(0)", LeastKnown.STATE, x.back(0));
        Checks.due("person(0, 0)", LeastKnown.BAD, x.person(0, 0));
        Checks.due("BAD", -1, LeastKnown.BAD);
        Checks.due("STATE", -2, LeastKnown.STATE);
        Checks.due("FULL", -3, LeastKnown.FULL);
        Checks.due("NONE", -9, LeastKnown.NONE);
        Checks.due("NO", -1000000, LeastKnown.NO);
    }

    private static void knows() {
        LeastKnown x = Checks.told(Checks.people(3) + "knows 0 1;mutual 1 2;");
        Checks.due("knows(0, 1)", 1, x.knows(0, 1));
        Checks.due("knows(1, 0): not both ways", 0, x.knows(1, 0));
        Checks.due("knows(1, 2)", 1, x.knows(1, 2));
        Checks.due("knows(2, 1)", 1, x.knows(2, 1));
        int[][] bad = {{0, 0}, {2, 2}, {3, 0}, {0, 3}, {-1, 0}, {0, -1}, {MIN, 0}, {0, MAX}, {3, 3}};
        for (int[] pair : bad) {
            Checks.due("knows", LeastKnown.BAD, x.knows(pair[0], pair[1]));
            Checks.due("seen", LeastKnown.NO, x.seen(pair[0], pair[1]));
            Checks.due("meet", LeastKnown.BAD, x.meet(pair[0], pair[1]));
        }
    }

    private static void seen() {
        LeastKnown x = Checks.told(Checks.people(3) + "knows 0 1;");
        Checks.due("told by the text", -1, x.seen(0, 1));
        Checks.due("does not KNOW", LeastKnown.NO, x.seen(1, 0));
        x.meet(0, 1);
        Checks.due("met in YEAR 0", 0, x.seen(0, 1));
        Checks.due("met in YEAR 0, the other way", 0, x.seen(1, 0));
        x.go(5);
        x.meet(0, 1);
        Checks.due("met in YEAR 5", 5, x.seen(1, 0));
        x.moves(1);
        Checks.due("moved", LeastKnown.NO, x.seen(0, 1));
        x.anew();
        Checks.due("anew", -1, x.seen(0, 1));
    }

    private static void person() {
        LeastKnown x = Checks.told(Checks.people(4) + "knows 0 1;knows 2 1;knows 0 3;calls 2 3;");
        Checks.due("COUNT of 1", 2, x.person(1, 0));
        Checks.due("COUNT of 0", 0, x.person(0, 0));
        Checks.due("0 KNOWS", 2, x.person(0, 1));
        Checks.due("1 KNOWS", 0, x.person(1, 1));
        Checks.due("2 CALLS", 3, x.person(2, 2));
        Checks.due("3 CALLS", LeastKnown.NONE, x.person(3, 2));
        Checks.due("never reigned", 0, x.person(0, 3));
        x.go(2);
        Checks.due("reigned", 2, x.person(0, 3) + x.person(1, 3) + x.person(2, 3) + x.person(3, 3));
        int[][] bad = {{4, 0}, {-1, 0}, {0, 4}, {0, -1}, {MIN, 1}, {0, MAX}, {8, 0}};
        for (int[] row : bad) {
            Checks.due("person", LeastKnown.BAD, x.person(row[0], row[1]));
        }
    }

    private static void law() {
        LeastKnown x = Checks.told("forgets 4;law just 6;");
        Checks.due("law(0)", 2, x.law(0));
        Checks.due("law(1)", 6, x.law(1));
        Checks.due("law(2)", 4, x.law(2));
        Checks.due("law(3)", LeastKnown.BAD, x.law(3));
        Checks.due("law(-1)", LeastKnown.BAD, x.law(-1));
        Checks.due("law(MIN)", LeastKnown.BAD, x.law(MIN));
        Checks.due("j without JUST", 2, Checks.told("law second;").law(1));
    }

    private static void rules() {
        LeastKnown x = new LeastKnown();
        Checks.due("rules(2, 7)", 0, x.rules(2, 7));
        Checks.due("j", 7, x.law(1));
        Checks.due("rules(3, 0)", 2, x.rules(3, 0));
        Checks.due("j stays", 7, x.law(1));
        Checks.due("LAW", 3, x.law(0));
        int[][] bad = {{4, 0}, {-1, 0}, {2, 8}, {2, -1}, {0, 1}, {1, 1}, {3, 1}, {0, -1}, {3, 2}, {MIN, 0}, {2, MAX}};
        for (int[] row : bad) {
            Checks.due("rules(" + row[0] + ", " + row[1] + ")", LeastKnown.BAD, x.rules(row[0], row[1]));
        }
        Checks.due("LAW as it was", 3, x.law(0));
        Checks.due("j as it was", 7, x.law(1));
        Checks.due("rules(1, 0)", 3, x.rules(1, 0));
        Checks.due("rules(2, 0)", 1, x.rules(2, 0));
        Checks.due("j", 0, x.law(1));
        Checks.due("rules(0, 0)", 2, x.rules(0, 0));
        Checks.due("rules(0, 0) again", 0, x.rules(0, 0));
    }
}
