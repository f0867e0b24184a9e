/** Promises 10 to 16: who is CHOSEN, meetings, SPRINGS. */
public final class YearsTest {
    private static final int MIN = Integer.MIN_VALUE, MAX = Integer.MAX_VALUE;

    public static void main(String[] args) {
        chosen();
        chosenNever();
        meet();
        introduce();
        moves();
        go();
        habits();
        forgetting();
        now();
        anew();
        Checks.end("YearsTest");
    }

    private static void chosen() {
        Checks.due("no PEOPLE", LeastKnown.STATE, new LeastKnown().chosen());
        Checks.due("one alone", 0, Checks.told("person;").chosen());
        Checks.due("one alone, SECOND", 0, Checks.told("person;law second;").chosen());
        Checks.due("one alone, JUST 7", 0, Checks.told("person;law just 7;").chosen());
        Checks.due("all alike: the least number", 0, Checks.told(Checks.people(4)).chosen());
        Checks.due("all alike, SECOND", 1, Checks.told(Checks.people(4) + "law second;").chosen());
        // COUNTS 2, 1, 1, 3
        String counts = Checks.people(4) + "knows 1 0;knows 2 0;knows 0 1;knows 0 2;knows 0 3;knows 1 3;knows 2 3;";
        LeastKnown x = Checks.told(counts);
        Checks.due("LEAST", 1, x.chosen());
        x.rules(1, 0);
        Checks.due("SECOND", 2, x.chosen());
        int[] just = {1, 1, 0, 3, 1, 1, 1, 1};
        for (int j = 0; j < just.length; j++) {
            x.rules(2, j);
            Checks.due("JUST " + j, just[j], x.chosen());
        }
        x.rules(3, 0);
        Checks.due("NEVER, none reigned", 1, x.chosen());
        // COUNTS 0, 2, 1: the SECOND is not the second number
        LeastKnown y = Checks.told(Checks.people(3) + "knows 0 1;knows 2 1;knows 0 2;law second;");
        Checks.due("SECOND by COUNT", 2, y.chosen());
    }

    private static void chosenNever() {
        LeastKnown x = Checks.told(Checks.people(3) + "knows 0 1;law never;");
        Checks.due("go(1)", 0, x.go(1));
        Checks.due("chosen()", 2, x.chosen());
        Checks.due("go(1)", 2, x.go(1));
        Checks.due("go(1)", 1, x.go(1));
        Checks.due("all have: of all", 0, x.chosen());
        x.moves(2);
        Checks.due("all have: the LEAST of all", 2, x.chosen());
        x.rules(0, 0);
        Checks.due("LEAST", 2, x.chosen());
    }

    private static void meet() {
        LeastKnown x = Checks.told(Checks.people(3) + "knows 0 1;");
        Checks.due("one did not", 1, x.meet(0, 1));
        Checks.due("both did not", 2, x.meet(2, 1));
        Checks.due("both did", 0, x.meet(1, 2));
        Checks.dueKnowledge("behind", ".10 1.1 01.", x);
    }

    private static void introduce() {
        LeastKnown x = Checks.told(Checks.people(4) + "knows 0 1;knows 3 2;");
        Checks.due("introduce(0, 2, 1)", 1, x.introduce(0, 2, 1));
        Checks.dueKnowledge("one way alone", ".100 0.00 01.0 001.", x);
        Checks.due("SEEN", 0, x.seen(2, 1));
        Checks.due("a's SEEN stays", -1, x.seen(0, 1));
        Checks.due("a does not KNOW c", LeastKnown.STATE, x.introduce(1, 2, 0));
        Checks.due("b KNOWS c, a does not", LeastKnown.STATE, x.introduce(3, 2, 1));
        x.go(3);
        x.introduce(0, 2, 1);
        Checks.due("b KNOWS c: 0", 0, x.introduce(0, 2, 1));
        Checks.due("SEEN this YEAR", 3, x.seen(2, 1));
        int[][] bad = {{0, 0, 1}, {0, 1, 1}, {0, 1, 0}, {4, 1, 0}, {0, 4, 1}, {0, 1, 4}, {-1, 1, 0}, {0, -1, 1},
            {0, 2, -1}, {MIN, MAX, 0}, {1, 1, 1}};
        for (int[] row : bad) {
            Checks.due("introduce", LeastKnown.BAD, x.introduce(row[0], row[1], row[2]));
        }
    }

    private static void moves() {
        LeastKnown x = Checks.told(Checks.people(3) + "knows 0 1;knows 2 1;knows 1 0;calls 2 1;");
        Checks.due("moves(1)", 2, x.moves(1));
        Checks.dueKnowledge("it KNOWS others still", ".00 1.0 00.", x);
        Checks.due("moves(1) again", 0, x.moves(1));
        Checks.due("the HABIT stays", 1, x.person(2, 2));
        Checks.due("moves(3)", LeastKnown.BAD, x.moves(3));
        Checks.due("moves(-1)", LeastKnown.BAD, x.moves(-1));
        Checks.due("moves(MAX)", LeastKnown.BAD, x.moves(MAX));
    }

    private static void go() {
        LeastKnown none = new LeastKnown();
        Checks.due("no PEOPLE", LeastKnown.STATE, none.go(1));
        Checks.due("BAD ahead of STATE", LeastKnown.BAD, none.go(0));
        LeastKnown x = Checks.told(Checks.people(3));
        int[] bad = {0, -1, 100, MIN, MAX};
        for (int n : bad) {
            Checks.due("go(" + n + ")", LeastKnown.BAD, x.go(n));
        }
        Checks.due("go(1)", 0, x.go(1));
        Checks.dueKnowledge("all others KNOW it", ".00 1.0 10.", x);
        Checks.due("SEEN this YEAR", 0, x.seen(1, 0));
        Checks.due("go(1)", 1, x.go(1));
        Checks.due("SEEN in YEAR 1", 1, x.seen(2, 1));
        Checks.due("YEAR", 2, x.now(0));
        Checks.due("go(2)", 0, x.go(2));
        Checks.due("YEAR", 4, x.now(0));
        Checks.due("reigned", 2, x.person(0, 3));
        Checks.due("as many as are left", 0, x.go(99));
        Checks.due("YEAR", 99, x.now(0));
        Checks.due("all of them", 99, x.person(0, 3) + x.person(1, 3) + x.person(2, 3));
        Checks.due("STATE", LeastKnown.STATE, x.go(1));
        Checks.due("BAD ahead of STATE", LeastKnown.BAD, x.go(100));
        Checks.due("they MEET in YEAR 99", 0, x.meet(1, 2));
        Checks.due("SEEN", 99, x.seen(1, 2));
        Checks.due("the only one", 0, Checks.told("person;").go(99));
    }

    private static void habits() {
        LeastKnown x = Checks.told(Checks.people(3) + "calls 0 1;");
        Checks.due("HABITS ahead of the CHOSEN one", 2, x.go(1));
        Checks.dueKnowledge("both ways", ".11 1.1 00.", x);
        x.moves(0);
        x.moves(1);
        x.go(1);
        Checks.due("each year", 1, x.seen(0, 1));
        Checks.due("each year", 1, x.seen(1, 0));
    }

    private static void forgetting() {
        LeastKnown x = Checks.told(Checks.people(3) + "knows 1 2;knows 0 2;forgets 2;");
        x.go(1);
        Checks.dueKnowledge("0 less -1 is 1", ".01 1.1 10.", x);
        x.go(1);
        Checks.dueKnowledge("1 less -1 is 2", ".10 1.0 11.", x);
        x.go(1);
        Checks.due("in YEAR 2 they forget 0", 0, x.knows(1, 0));
        Checks.dueKnowledge("whom they SAW in YEAR 0", ".11 0.1 01.", x);
        Checks.due("whom they SAW in YEAR 1", 1, x.seen(0, 1));
        LeastKnown never = Checks.told(Checks.people(2) + "mutual 0 1;");
        never.go(99);
        Checks.dueKnowledge("FORGETS 0: never", ".1 1.", never);
        LeastKnown met = Checks.told(Checks.people(4) + "mutual 2 3;forgets 1;");
        met.meet(2, 3);
        met.go(1);
        Checks.due("SEEN this YEAR by a meeting", 1, met.knows(2, 3));
        met.go(1);
        Checks.due("not the year behind it", 0, met.knows(3, 2));
        LeastKnown told = Checks.told(Checks.people(4) + "knows 1 2;forgets 3;");
        told.go(2);
        Checks.due("introduced in YEAR 2", 1, told.introduce(1, 3, 2));
        told.go(1);
        Checks.due("forgotten in YEAR 2", told.now(1) == 2 ? 1 : 0, told.knows(1, 2));
        Checks.due("SEEN in YEAR 2", 1, told.knows(3, 2));
    }

    private static void now() {
        LeastKnown x = Checks.told(Checks.people(3) + "knows 0 1;");
        Checks.due("none reigned", LeastKnown.NONE, x.now(1));
        Checks.due("COUNTS", 1, x.now(2));
        Checks.due("go(1)", 0, x.go(1));
        Checks.due("YEAR", 1, x.now(0));
        Checks.due("last", 0, x.now(1));
        Checks.due("COUNTS", 3, x.now(2));
        Checks.due("go(1)", 2, x.go(1));
        Checks.due("last", 2, x.now(1));
        Checks.due("now(3)", LeastKnown.BAD, x.now(3));
        Checks.due("now(-1)", LeastKnown.BAD, x.now(-1));
        Checks.due("now(MIN)", LeastKnown.BAD, x.now(MIN));
    }

    private static void anew() {
        Checks.due("no PEOPLE", 0, new LeastKnown().anew());
        LeastKnown x = Checks.told(Checks.people(3) + "knows 0 1;calls 1 2;law never;");
        x.go(4);
        x.keep(0);
        x.rules(2, 5);
        x.rate(0, 0);
        Checks.type(x, "law");
        Checks.due("anew()", 4, x.anew());
        Checks.due("anew() again", 0, x.anew());
        Checks.dueKnowledge("who KNOWS whom", ".10 0.0 00.", x);
        Checks.due("SEEN", -1, x.seen(0, 1));
        Checks.due("reigned", 0, x.person(0, 3) + x.person(1, 3) + x.person(2, 3));
        Checks.due("last", LeastKnown.NONE, x.now(1));
        Checks.due("LAW stays", 2, x.law(0));
        Checks.due("j stays", 5, x.law(1));
        Checks.due("HABITS stay", 1, x.count(2));
        Checks.due("THE TRACE goes on", 1, x.trace());
        Checks.due("THE TEXT stays", 3, x.count(3));
        x.rules(3, 0);
        Checks.due("nobody has reigned", 0, x.chosen());
        Checks.due("the IMAGE stays", 4, x.back(0));
        LeastKnown one = Checks.told(Checks.people(3) + "law never;");
        Checks.due("go(1)", 0, one.go(1));
        one.anew();
        Checks.due("who had reigned ahead has not", 0, one.chosen());
    }
}
