/** Promises 5 to 9: each sentence that names a bound or a refusal. */
public final class BoundsPeopleTest {
    private static final int BAD = LeastKnown.BAD, NO = LeastKnown.NO, NONE = LeastKnown.NONE;
    private static final int MIN = Integer.MIN_VALUE, MAX = Integer.MAX_VALUE;

    public static void main(String[] args) {
        Checks.sentence("5 knows: whether one KNOWS another one", BoundsPeopleTest::knowsEachPair);
        Checks.sentence("5 knows: BAD", BoundsPeopleTest::knowsBad);
        Checks.sentence("5 knows: BAD (alike, too)", BoundsPeopleTest::knowsAlike);
        Checks.sentence("6 seen: SEEN (a YEAR; -1, where it was told by the text)", BoundsPeopleTest::seenYears);
        Checks.sentence("6 seen: NO: it does not KNOW it", BoundsPeopleTest::seenNotKnown);
        Checks.sentence("6 seen: NO: BAD", BoundsPeopleTest::seenBad);
        Checks.sentence("6 seen: NO: BAD (alike, too)", BoundsPeopleTest::seenAlike);
        Checks.sentence("7 person: 0 COUNT, 1 how many it KNOWS", BoundsPeopleTest::personCounts);
        Checks.sentence("7 person: 2 on whom it CALLS (NONE)", BoundsPeopleTest::personCalls);
        Checks.sentence("7 person: 3 how often it reigned", BoundsPeopleTest::personReigned);
        Checks.sentence("7 person: BAD", BoundsPeopleTest::personBad);
        Checks.sentence("8 law: 0 LAW, 1 j of JUST (2 at first), 2 FORGETS", BoundsPeopleTest::lawTells);
        Checks.sentence("8 law: BAD", BoundsPeopleTest::lawBad);
        Checks.sentence("9 rules: LAW becomes 0 .. 3: what it was", BoundsPeopleTest::rulesWas);
        Checks.sentence("9 rules: j 0 .. 7 with JUST", BoundsPeopleTest::rulesJust);
        Checks.sentence("9 rules: else 0: j of JUST stays", BoundsPeopleTest::rulesKeepJ);
        Checks.sentence("9 rules: LAW and j alone", BoundsPeopleTest::rulesAlone);
        Checks.sentence("9 rules: BAD: LAW", BoundsPeopleTest::rulesBadLaw);
        Checks.sentence("9 rules: BAD: j", BoundsPeopleTest::rulesBadJ);
        Checks.end("BoundsPeopleTest");
    }

    /** Numbers that are none of so many PEOPLE. */
    private static int[] nobody(int people) {
        return new int[] {people, people + 1, 8, 9, 10, 64, 99, 256, 65536, -1, -2, -8, 1 << 30, MIN, MIN + 1, MAX};
    }

    // ---- 5

    private static void knowsEachPair() {
        for (int a = 0; a < 8; a++) {
            for (int b = 0; b < 8; b++) {
                if (a == b) {
                    continue;
                }
                LeastKnown x = Checks.told(Checks.people(8) + "knows " + a + " " + b + ";");
                Checks.due("knows(" + a + ", " + b + ")", 1, x.knows(a, b));
                Checks.due("knows(" + b + ", " + a + ")", 0, x.knows(b, a));
                Checks.due("pairs", 1, x.count(1));
            }
        }
        LeastKnown two = Checks.told(Checks.people(2));
        Checks.due("knows(0, 1)", 0, two.knows(0, 1));
        Checks.due("knows(1, 0)", 0, two.knows(1, 0));
    }

    private static void knowsBad() {
        for (int p : nobody(4)) {
            Checks.refused("knows(" + p + ", 0)", BAD, Towns::used, x -> x.knows(p, 0));
            Checks.refused("knows(0, " + p + ")", BAD, Towns::used, x -> x.knows(0, p));
            Checks.due("knows(" + p + ", 3)", BAD, Towns.used().knows(p, 3));
        }
        for (int p : nobody(8)) {
            LeastKnown all = Towns.friends(8);
            Checks.due("knows(" + p + ", 7) of eight", BAD, all.knows(p, 7));
            Checks.due("knows(7, " + p + ") of eight", BAD, all.knows(7, p));
        }
        Checks.due("knows(0, 1) of one", BAD, Checks.told("person;").knows(0, 1));
        Checks.due("knows(1, 0) of one", BAD, Checks.told("person;").knows(1, 0));
    }

    private static void knowsAlike() {
        for (int p = 0; p < 8; p++) {
            Checks.due("knows(" + p + ", " + p + ")", BAD, Towns.friends(8).knows(p, p));
        }
        Checks.due("knows(0, 0) of one", BAD, Checks.told("person;").knows(0, 0));
        Checks.refused("knows(4, 4)", BAD, Towns::used, x -> x.knows(4, 4));
        Checks.refused("knows(-1, -1)", BAD, Towns::used, x -> x.knows(-1, -1));
        Checks.refused("knows(2, 2)", BAD, Towns::used, x -> x.knows(2, 2));
    }

    // ---- 6

    private static void seenYears() {
        LeastKnown x = Checks.told(Checks.people(8) + "mutual 0 7;law just 7;");
        Checks.due("seen(0, 7)", -1, x.seen(0, 7));
        Checks.due("seen(7, 0)", -1, x.seen(7, 0));
        Checks.due("met already: meet(0, 7)", 0, x.meet(0, 7));
        Checks.due("YEAR 0", 0, x.seen(0, 7));
        x.go(98);
        x.meet(5, 6);
        Checks.due("YEAR 98", 98, x.seen(6, 5));
        x.go(1);
        x.meet(6, 7);
        Checks.due("YEAR 99", 99, x.seen(6, 7));
        Checks.due("YEAR 99, the other way", 99, x.seen(7, 6));
        Checks.due("YEAR 98 still", 98, x.seen(5, 6));
    }

    private static void seenNotKnown() {
        LeastKnown x = Checks.told(Checks.people(3) + "knows 0 1;");
        Checks.due("never", NO, x.seen(1, 0));
        x.meet(0, 2);
        x.moves(2);
        Checks.due("no more", NO, x.seen(0, 2));
        Checks.due("the other way still", 0, x.seen(2, 0));
        x.moves(1);
        Checks.due("told by the text, no more", NO, x.seen(0, 1));
        Checks.refused("seen(1, 2)", NO, Towns::used, y -> y.seen(1, 2));
    }

    private static void seenBad() {
        for (int p : nobody(4)) {
            Checks.refused("seen(" + p + ", 0)", NO, Towns::used, x -> x.seen(p, 0));
            Checks.refused("seen(0, " + p + ")", NO, Towns::used, x -> x.seen(0, p));
        }
        for (int p : nobody(8)) {
            LeastKnown all = Towns.friends(8);
            Checks.due("seen(" + p + ", 7) of eight", NO, all.seen(p, 7));
            Checks.due("seen(7, " + p + ") of eight", NO, all.seen(7, p));
        }
    }

    private static void seenAlike() {
        for (int p = 0; p < 8; p++) {
            Checks.due("seen(" + p + ", " + p + ")", NO, Towns.friends(8).seen(p, p));
        }
        Checks.due("seen(0, 0) of one", NO, Checks.told("person;").seen(0, 0));
    }

    // ---- 7

    private static void personCounts() {
        LeastKnown x = Checks.told(Checks.people(8) + "knows1 0;knows2 0;knows3 0;knows4 0;knows5 0;knows6 0;knows7 0;"
            + "knows7 1;knows7 2;knows7 3;knows7 4;knows7 5;knows7 6;");
        int[] counts = {7, 1, 1, 1, 1, 1, 1, 0};
        int[] known = {0, 1, 1, 1, 1, 1, 1, 7};
        for (int p = 0; p < 8; p++) {
            Checks.due("COUNT of " + p, counts[p], x.person(p, 0));
            Checks.due("how many " + p + " KNOWS", known[p], x.person(p, 1));
        }
        LeastKnown one = Checks.told("person;");
        Checks.due("COUNT of one alone", 0, one.person(0, 0));
        Checks.due("how many it KNOWS", 0, one.person(0, 1));
    }

    private static void personCalls() {
        LeastKnown x = Checks.told(Checks.people(8) + "calls 0 7;calls 7 0;calls 3 4;");
        int[] calls = {7, NONE, NONE, 4, NONE, NONE, NONE, 0};
        for (int p = 0; p < 8; p++) {
            Checks.due("CALLS of " + p, calls[p], x.person(p, 2));
        }
        x.go(9);
        x.moves(7);
        x.anew();
        Checks.due("CALLS of 0 still", 7, x.person(0, 2));
    }

    private static void personReigned() {
        LeastKnown x = Checks.told("person;");
        Checks.due("reigned", 0, x.person(0, 3));
        x.go(1);
        Checks.due("reigned", 1, x.person(0, 3));
        x.go(98);
        Checks.due("reigned in all YEARS", 99, x.person(0, 3));
        LeastKnown two = Checks.told(Checks.people(2) + "knows 1 0;");
        two.go(1);
        Checks.due("reigned, 1", 1, two.person(1, 3));
        Checks.due("reigned, 0", 0, two.person(0, 3));
    }

    private static void personBad() {
        for (int p : nobody(4)) {
            for (int what = 0; what < 4; what++) {
                int told = what;
                Checks.refused("person(" + p + ", " + what + ")", BAD, Towns::used, x -> x.person(p, told));
            }
        }
        int[] bad = {-1, 4, 5, 8, 256, MIN, MAX};
        for (int what : bad) {
            Checks.refused("person(0, " + what + ")", BAD, Towns::used, x -> x.person(0, what));
            Checks.refused("person(3, " + what + ")", BAD, Towns::used, x -> x.person(3, what));
            Checks.refused("person(4, " + what + ")", BAD, Towns::used, x -> x.person(4, what));
        }
        for (int p : nobody(8)) {
            Checks.due("person(" + p + ", 0) of eight", BAD, Towns.friends(8).person(p, 0));
        }
        Checks.due("person(7, 0) of eight", 7, Towns.friends(8).person(7, 0));
    }

    // ---- 8

    private static void lawTells() {
        String[] laws = {"least", "second", "just 7", "never"};
        int[] j = {2, 2, 7, 2};
        for (int law = 0; law < 4; law++) {
            LeastKnown x = Checks.told("forgets 9;law " + laws[law] + ";");
            Checks.due("law(0)", law, x.law(0));
            Checks.due("law(1)", j[law], x.law(1));
            Checks.due("law(2)", 9, x.law(2));
        }
        LeastKnown zero = Checks.told("forgets 0;law just 0;");
        Checks.due("law(0)", 2, zero.law(0));
        Checks.due("law(1)", 0, zero.law(1));
        Checks.due("law(2)", 0, zero.law(2));
    }

    private static void lawBad() {
        int[] bad = {-1, 3, 4, 256, MIN, MAX};
        for (int what : bad) {
            Checks.refused("law(" + what + ")", BAD, Towns::used, x -> x.law(what));
            Checks.refused("law(" + what + ")", BAD, Towns::empty, x -> x.law(what));
        }
    }

    // ---- 9

    private static void rulesWas() {
        for (int was = 0; was < 4; was++) {
            for (int law = 0; law < 4; law++) {
                LeastKnown x = new LeastKnown();
                x.rules(was, 0);
                Checks.due("rules(" + law + ", 0) behind " + was, was, x.rules(law, 0));
                Checks.due("law(0)", law, x.law(0));
            }
        }
        Checks.due("what the text told", 3, Checks.told("law never;").rules(0, 0));
    }

    private static void rulesJust() {
        for (int j = 0; j <= 7; j++) {
            LeastKnown x = Towns.used();
            Checks.due("rules(2, " + j + ")", 3, x.rules(2, j));
            Checks.due("law(0)", 2, x.law(0));
            Checks.due("law(1)", j, x.law(1));
            Checks.due("rules(2, " + (7 - j) + ") over it", 2, x.rules(2, 7 - j));
            Checks.due("law(1)", 7 - j, x.law(1));
        }
    }

    private static void rulesKeepJ() {
        int[] others = {0, 1, 3};
        for (int law : others) {
            LeastKnown x = Checks.told("law just 6;");
            x.rules(law, 0);
            Checks.due("j behind rules(" + law + ", 0)", 6, x.law(1));
            LeastKnown first = new LeastKnown();
            first.rules(law, 0);
            Checks.due("j at first behind rules(" + law + ", 0)", 2, first.law(1));
        }
    }

    private static void rulesAlone() {
        LeastKnown x = Towns.used();
        x.rules(2, 7);
        x.rules(2, 4);
        x.rules(3, 0);
        Checks.dueSame("all as it was, once LAW and j are", Whole.now(Towns.used()), Whole.now(x));
    }

    private static void rulesBadLaw() {
        int[] bad = {-1, 4, 5, 256, MIN, MAX};
        for (int law : bad) {
            Checks.refused("rules(" + law + ", 0)", BAD, Towns::used, x -> x.rules(law, 0));
            Checks.refused("rules(" + law + ", 2)", BAD, Towns::used, x -> x.rules(law, 2));
            Checks.refused("rules(" + law + ", 8)", BAD, Towns::empty, x -> x.rules(law, 8));
        }
    }

    private static void rulesBadJ() {
        int[] bad = {-1, 8, 9, 256, MIN, MAX};
        for (int j : bad) {
            for (int law = 0; law < 4; law++) {
                int told = law;
                Checks.refused("rules(" + law + ", " + j + ")", BAD, Towns::used, x -> x.rules(told, j));
            }
        }
        int[] others = {0, 1, 3};
        for (int law : others) {
            for (int j = 1; j <= 7; j++) {
                int told = j;
                Checks.refused("rules(" + law + ", " + j + ")", BAD, Towns::used, x -> x.rules(law, told));
            }
        }
    }
}
