/** Promises 10 to 16 and the second part of Terms: each sentence that names a bound or a refusal. */
public final class BoundsYearsTest {
    private static final int BAD = LeastKnown.BAD, STATE = LeastKnown.STATE, NO = LeastKnown.NO, NONE = LeastKnown.NONE;
    private static final int MIN = Integer.MIN_VALUE, MAX = Integer.MAX_VALUE;
    private static final int[] NOBODY = {4, 5, 8, 9, 64, 256, 65536, -1, -4, 1 << 30, MIN, MAX};

    public static void main(String[] args) {
        Checks.sentence("Terms: YEAR 0 at first, 99 at most", BoundsYearsTest::yearBounds);
        Checks.sentence("Terms: COUNT: how many others KNOW it (0 .. 7)", BoundsYearsTest::countBounds);
        Checks.sentence("Terms: LEAST: of several the least number", BoundsYearsTest::leastTies);
        Checks.sentence("Terms: SECOND: likewise of all but the LEAST", BoundsYearsTest::secondTies);
        Checks.sentence("Terms: SECOND: where there is but one: that one", BoundsYearsTest::secondAlone);
        Checks.sentence("Terms: JUST j: the least number with a COUNT of j", BoundsYearsTest::justEachJ);
        Checks.sentence("Terms: JUST j: where there is none: the LEAST", BoundsYearsTest::justNone);
        Checks.sentence("Terms: NEVER: likewise as LEAST, of those who have not reigned", BoundsYearsTest::neverFresh);
        Checks.sentence("Terms: NEVER: where all have: of all", BoundsYearsTest::neverAll);
        Checks.sentence("Terms: MEET: two KNOW each other then, SEEN both ways", BoundsYearsTest::meetBothWays);
        Checks.sentence("Terms: A SPRING: HABITS ahead of the CHOSEN one", BoundsYearsTest::springHabits);
        Checks.sentence("Terms: A SPRING: all others KNOW it, SEEN this YEAR", BoundsYearsTest::springRuler);
        Checks.sentence("Terms: FORGETS: this YEAR less SEEN is that at least", BoundsYearsTest::forgetsAtLeast);
        Checks.sentence("Terms: FORGETS: whoever KNOWS one", BoundsYearsTest::forgetsEachPair);
        Checks.sentence("Terms: FORGETS: SEEN -1, told by the text", BoundsYearsTest::forgetsTold);
        Checks.sentence("Terms: FORGETS 0: never", BoundsYearsTest::forgetsNever);
        Checks.sentence("Terms: FORGETS 1: whom it SAW this YEAR it KNOWS", BoundsYearsTest::forgetsOne);
        Checks.sentence("Terms: FORGETS: SEEN anew counts from then", BoundsYearsTest::forgetsSeenAnew);
        Checks.sentence("Terms: MOVES: nobody KNOWS it any more", BoundsYearsTest::movesKnown);
        Checks.sentence("Terms: INTRODUCED: that other one KNOWS the third", BoundsYearsTest::introducedOneWay);
        Checks.sentence("10 chosen: CHOSEN, as all are NOW", BoundsYearsTest::chosenNow);
        Checks.sentence("10 chosen: STATE: no PEOPLE", BoundsYearsTest::chosenState);
        Checks.sentence("11 meet: how many KNOW another one who did not (0 .. 2)", BoundsYearsTest::meetHowMany);
        Checks.sentence("11 meet: BAD", BoundsYearsTest::meetBad);
        Checks.sentence("11 meet: BAD (alike, too)", BoundsYearsTest::meetAlike);
        Checks.sentence("12 introduce: 1; b KNOWS c already: 0", BoundsYearsTest::introduceAnswers);
        Checks.sentence("12 introduce: 0 (SEEN this YEAR all the same)", BoundsYearsTest::introduceSeen);
        Checks.sentence("12 introduce: BAD", BoundsYearsTest::introduceBad);
        Checks.sentence("12 introduce: BAD (any alike)", BoundsYearsTest::introduceAlike);
        Checks.sentence("12 introduce: STATE: a does not KNOW c", BoundsYearsTest::introduceState);
        Checks.sentence("13 moves: its COUNT ahead", BoundsYearsTest::movesCount);
        Checks.sentence("13 moves: BAD", BoundsYearsTest::movesBad);
        Checks.sentence("14 go: n SPRINGS (1 .. 99)", BoundsYearsTest::goSprings);
        Checks.sentence("14 go: as many as are left", BoundsYearsTest::goLeft);
        Checks.sentence("14 go: who reigned last", BoundsYearsTest::goLast);
        Checks.sentence("14 go: BAD", BoundsYearsTest::goBad);
        Checks.sentence("14 go: STATE: it is YEAR 99", BoundsYearsTest::goLastYear);
        Checks.sentence("14 go: STATE: no PEOPLE", BoundsYearsTest::goNoPeople);
        Checks.sentence("14 go: the first of these: BAD, STATE", BoundsYearsTest::goBadAheadOfState);
        Checks.sentence("15 now: 0 YEAR, 1 who reigned last (NONE), 2 all COUNTS added", BoundsYearsTest::nowTells);
        Checks.sentence("15 now: BAD", BoundsYearsTest::nowBad);
        Checks.sentence("16 anew: NOW is as at first", BoundsYearsTest::anewNow);
        Checks.sentence("16 anew: the YEAR it was", BoundsYearsTest::anewYear);
        Checks.sentence("16 anew: NOW alone", BoundsYearsTest::anewAlone);
        Checks.end("BoundsYearsTest");
    }

    /** A town in which 0 alone reigns, in each SPRING, so that nobody SEES any other one by that. */
    private static String quiet(int people, int forgets) {
        return Checks.people(people) + "forgets " + forgets + ";law just " + (people - 1) + ";";
    }

    /** Eight PEOPLE; the COUNT of each one is its number. */
    private static String stairs() {
        StringBuilder text = new StringBuilder(Checks.people(8));
        for (int p = 1; p < 8; p++) {
            for (int q = 0; q < p; q++) {
                text.append("knows").append(q).append(' ').append(p).append(';');
            }
        }
        return text.toString();
    }

    // ---- Terms

    private static void yearBounds() {
        LeastKnown x = Checks.told("person;");
        for (int year = 0; year < 99; year++) {
            Checks.due("YEAR", year, x.now(0));
            Checks.due("go(1)", 0, x.go(1));
        }
        Checks.due("YEAR", 99, x.now(0));
        Checks.due("go(1)", STATE, x.go(1));
        Checks.due("YEAR", 99, x.now(0));
        Checks.due("keep(0)", 99, x.keep(0));
        Checks.due("anew()", 99, x.anew());
        Checks.due("YEAR", 0, x.now(0));
        Checks.due("back(0)", 99, x.back(0));
    }

    private static void countBounds() {
        LeastKnown x = Checks.told(stairs());
        for (int p = 0; p < 8; p++) {
            Checks.due("COUNT of " + p, p, x.person(p, 0));
            Checks.due("how many " + p + " KNOWS", 7 - p, x.person(p, 1));
        }
    }

    private static void leastTies() {
        Checks.due("one alone", 0, Checks.told("person;").chosen());
        Checks.due("all with 0", 0, Checks.told(Checks.people(8)).chosen());
        Checks.due("all with 7", 0, Towns.friends(8).chosen());
        Checks.due("1, 0, 0", 1, Checks.told(Checks.people(3) + "knows 1 0;").chosen());
        Checks.due("1, 1, 0", 2, Checks.told(Checks.people(3) + "mutual 1 0;").chosen());
        Checks.due("0 .. 7", 0, Checks.told(stairs()).chosen());
        LeastKnown seven = Checks.told(stairs());
        seven.moves(7);
        seven.meet(0, 1);
        Checks.due("1, 2, 2, 3, 4, 5, 6, 0", 7, seven.chosen());
    }

    private static void secondTies() {
        Checks.due("0, 0", 1, Checks.told(Checks.people(2) + "law second;").chosen());
        Checks.due("1, 0", 0, Checks.told(Checks.people(2) + "knows 1 0;law second;").chosen());
        Checks.due("0, 1", 1, Checks.told(Checks.people(2) + "knows 0 1;law second;").chosen());
        Checks.due("1, 0, 0", 2, Checks.told(Checks.people(3) + "knows 1 0;law second;").chosen());
        Checks.due("1, 0, 1", 0, Checks.told(Checks.people(3) + "knows 1 0;knows 1 2;law second;").chosen());
        Checks.due("1, 1, 0", 0, Checks.told(Checks.people(3) + "mutual 1 0;law second;").chosen());
        Checks.due("0 .. 7", 1, Checks.told(stairs() + "law second;").chosen());
        LeastKnown all = Towns.friends(8);
        all.rules(1, 0);
        Checks.due("all with 7", 1, all.chosen());
        all.moves(7);
        Checks.due("7 .. 7, 0", 0, all.chosen());
        all.moves(6);
        Checks.due("7 .. 7, 0, 0", 7, all.chosen());
    }

    private static void secondAlone() {
        LeastKnown x = Checks.told("person;law second;");
        Checks.due("chosen()", 0, x.chosen());
        Checks.due("go(3)", 0, x.go(3));
        Checks.due("reigned", 3, x.person(0, 3));
        Checks.due("reigns(40)", 0, x.reigns(40));
        Checks.due("days(3, 0, 1, 1)", 0, x.days(3, 0, 1, 1));
        Checks.due("brings(0, 1, -1)", 0, x.brings(0, 1, -1));
    }

    private static void justEachJ() {
        LeastKnown x = Checks.told(stairs());
        for (int j = 0; j <= 7; j++) {
            x.rules(2, j);
            Checks.due("JUST " + j, j, x.chosen());
        }
        LeastKnown all = Towns.friends(8);
        all.rules(2, 7);
        Checks.due("all with 7", 0, all.chosen());
        all.moves(0);
        Checks.due("0, 7 .. 7", 1, all.chosen());
    }

    private static void justNone() {
        LeastKnown x = Checks.told(Checks.people(3) + "knows 0 1;knows 2 0;knows 1 0;");
        int[] due = {2, 1, 0, 2, 2, 2, 2, 2};
        for (int j = 0; j <= 7; j++) {
            x.rules(2, j);
            Checks.due("JUST " + j + " of 2, 1, 0", due[j], x.chosen());
        }
        for (int people = 1; people <= 8; people++) {
            LeastKnown friends = Towns.friends(people);
            for (int j = 0; j <= 7; j++) {
                friends.rules(2, j);
                Checks.due("JUST " + j + " of " + people + " friends", 0, friends.chosen());
            }
        }
    }

    private static void neverFresh() {
        LeastKnown x = Checks.told(stairs() + "law never;");
        for (int p = 0; p < 8; p++) {
            Checks.due("chosen()", p, x.chosen());
            Checks.due("go(1)", p, x.go(1));
        }
        LeastKnown ties = Checks.told(Checks.people(3) + "knows 0 1;law never;");
        ties.go(1);
        Checks.due("go(1), a LEAST above its number", 2, ties.go(1));
        Checks.due("go(1), the last one", 1, ties.go(1));
        LeastKnown other = Checks.told(Checks.people(3));
        other.go(1);
        other.moves(0);
        Checks.due("LEAST", 0, other.chosen());
        other.rules(3, 0);
        Checks.due("who reigned by another LAW has reigned", 1, other.chosen());
    }

    private static void neverAll() {
        LeastKnown one = Checks.told("person;law never;");
        Checks.due("go(99) of one", 0, one.go(99));
        LeastKnown x = Checks.told(Checks.people(3) + "law never;");
        x.go(3);
        Checks.due("of all: the least number", 0, x.chosen());
        x.moves(1);
        Checks.due("of all: the LEAST", 1, x.chosen());
        Checks.due("go(1)", 1, x.go(1));
        Checks.due("reigned", 2, x.person(1, 3));
    }

    private static void meetBothWays() {
        LeastKnown x = Checks.told(Checks.people(3) + "knows 0 1;");
        x.meet(1, 0);
        Checks.dueKnowledge("meet(1, 0)", ".10 1.0 00.", x);
        Checks.due("seen(0, 1)", 0, x.seen(0, 1));
        Checks.due("seen(1, 0)", 0, x.seen(1, 0));
        Checks.due("no other", NO, x.seen(0, 2));
        Checks.due("no YEAR goes by", 0, x.now(0));
    }

    private static void springHabits() {
        LeastKnown x = Checks.told(Checks.people(3) + "calls 1 0;");
        Checks.due("CHOSEN ahead of them", 0, x.chosen());
        Checks.due("go(1)", 2, x.go(1));
        Checks.dueKnowledge("both ways", ".11 1.1 00.", x);
        Checks.due("SEEN this YEAR", 0, x.seen(0, 1));
        x.go(1);
        Checks.due("SEEN the next YEAR, too", 1, x.seen(1, 0));
        LeastKnown far = Checks.told(Checks.people(8) + "calls 7 0;calls 0 7;");
        Checks.due("go(1)", 1, far.go(1));
        Checks.due("COUNT of 7", 1, far.person(7, 0));
        Checks.due("COUNT of 0", 1, far.person(0, 0));
        Checks.due("COUNT of 1", 7, far.person(1, 0));
    }

    private static void springRuler() {
        LeastKnown x = Checks.told(Checks.people(8));
        for (int year = 0; year < 8; year++) {
            x.go(1);
            Checks.due("COUNT of who reigned", 7, x.person(year, 0));
            Checks.due("SEEN", year, x.seen((year + 1) % 8, year));
            Checks.due("SEEN", year, x.seen((year + 7) % 8, year));
        }
        LeastKnown one = Checks.told(Checks.people(2));
        one.go(1);
        Checks.due("who reigned KNOWS nobody by that", 0, one.knows(0, 1));
        LeastKnown again = Checks.told(quiet(3, 0));
        again.go(2);
        Checks.due("SEEN anew by those who KNEW it", 1, again.seen(2, 0));
    }

    private static void forgetsAtLeast() {
        for (int forgets = 1; forgets <= 9; forgets++) {
            for (int ahead = 0; ahead <= 90; ahead += 89) {
                LeastKnown x = Checks.told(quiet(3, forgets));
                if (ahead > 0) {
                    x.go(ahead);
                }
                x.meet(1, 2);
                x.go(forgets);
                String call = "FORGETS " + forgets + ", met in YEAR " + ahead + ", knows(1, 2) in YEAR ";
                Checks.due(call + x.now(0), 1, x.knows(1, 2));
                Checks.due(call + x.now(0), 1, x.knows(2, 1));
                x.go(1);
                Checks.due(call + x.now(0), 0, x.knows(1, 2));
                Checks.due(call + x.now(0), 0, x.knows(2, 1));
            }
        }
    }

    private static void forgetsEachPair() {
        for (int a = 0; a < 8; a++) {
            for (int b = 0; b < 8; b++) {
                int ruler = a != 0 && b != 0 ? 0 : a != 1 && b != 1 ? 1 : 2;
                if (a == b) {
                    continue;
                }
                LeastKnown x = Checks.told(Checks.people(8) + "forgets 2;law just 7;knows " + a + " " + b + ";");
                for (int p = 0; p < 8; p++) {
                    x.meet(ruler, p);
                }
                x.go(1);
                Checks.due(a + " KNOWS " + b + " in YEAR 1", 1, x.knows(a, b));
                x.go(1);
                Checks.due(a + " KNOWS " + b + " in YEAR 2", 0, x.knows(a, b));
                Checks.due("who reigned", ruler, x.now(1));
                Checks.due("all KNOW it", 7, x.person(ruler, 0));
            }
        }
    }

    private static void forgetsTold() {
        for (int forgets = 1; forgets <= 9; forgets++) {
            LeastKnown x = Checks.told("law just 2;" + Checks.people(3) + "knows 1 2;forgets " + forgets + ";");
            if (forgets > 1) {
                x.go(forgets - 1);
            }
            Checks.due("FORGETS " + forgets + ", knows(1, 2)", 1, x.knows(1, 2));
            x.go(1);
            Checks.due("FORGETS " + forgets + ", knows(1, 2) then", 0, x.knows(1, 2));
        }
    }

    private static void forgetsNever() {
        LeastKnown x = Checks.told(quiet(4, 0) + "knows 1 2;");
        x.meet(2, 3);
        x.go(99);
        Checks.due("told by the text", -1, x.seen(1, 2));
        Checks.due("met in YEAR 0", 0, x.seen(2, 3));
        Checks.due("met in YEAR 0", 0, x.seen(3, 2));
    }

    private static void forgetsOne() {
        LeastKnown x = Checks.told(Checks.people(3) + "calls 1 2;forgets 1;law just 2;");
        for (int year = 0; year < 5; year++) {
            Checks.due("go(1)", 0, x.go(1));
            Checks.dueKnowledge("who was SEEN this YEAR", ".00 1.1 11.", x);
        }
        LeastKnown two = Checks.told(Checks.people(2) + "forgets 1;law second;knows 0 1;");
        Checks.due("go(1)", 1, two.go(1));
        Checks.due("who reigned is KNOWN", 1, two.knows(0, 1));
        two.rules(0, 0);
        Checks.due("go(1)", 0, two.go(1));
        Checks.due("who reigned the YEAR ahead is not", 0, two.knows(0, 1));
    }

    private static void forgetsSeenAnew() {
        LeastKnown x = Checks.told(quiet(4, 3) + "knows 1 2;");
        x.go(2);
        Checks.due("introduce(1, 3, 2)", 1, x.introduce(1, 3, 2));
        x.meet(1, 2);
        x.go(3);
        Checks.due("met in YEAR 2", 2, x.seen(1, 2));
        Checks.due("introduced in YEAR 2", 2, x.seen(3, 2));
        x.go(1);
        Checks.due("no more", 0, x.knows(1, 2) + x.knows(2, 1) + x.knows(3, 2));
        x.meet(1, 2);
        x.moves(2);
        x.go(1);
        Checks.due("moved, and met no more", 0, x.knows(1, 2));
        Checks.due("whom it KNOWS itself", 1, x.knows(2, 1));
    }

    private static void movesKnown() {
        LeastKnown x = Towns.friends(4);
        x.moves(1);
        Checks.dueKnowledge("moves(1)", ".011 1.11 10.1 101.", x);
        x.moves(3);
        Checks.dueKnowledge("moves(3)", ".010 1.10 10.0 101.", x);
        LeastKnown habit = Checks.told(Checks.people(3) + "calls 2 1;law just 1;");
        habit.go(1);
        habit.moves(1);
        habit.go(1);
        Checks.due("it is called on still", 1, habit.seen(2, 1));
    }

    private static void introducedOneWay() {
        LeastKnown x = Checks.told(Checks.people(4) + "knows 0 1;");
        x.introduce(0, 3, 1);
        Checks.dueKnowledge("introduce(0, 3, 1)", ".100 0.00 00.0 010.", x);
        Checks.due("SEEN this YEAR", 0, x.seen(3, 1));
        Checks.due("who told of it SAW it no later", -1, x.seen(0, 1));
    }

    // ---- 10

    private static void chosenNow() {
        LeastKnown x = Checks.told(Checks.people(3) + "calls 0 1;");
        Checks.due("no HABIT goes", 0, x.chosen());
        x.meet(0, 1);
        Checks.due("behind a meeting", 2, x.chosen());
        x.moves(1);
        Checks.due("behind a move", 1, x.chosen());
        Checks.due("none reigned by that", NONE, x.now(1));
        Checks.due("YEAR", 0, x.now(0));
        LeastKnown late = Checks.told(Checks.people(2));
        late.go(99);
        Checks.due("in YEAR 99", 0, late.chosen());
        String used = Whole.of(Towns::used);
        Checks.dueSame("nothing changes", used, Whole.of(() -> {
            LeastKnown y = Towns.used();
            y.chosen();
            return y;
        }));
    }

    private static void chosenState() {
        Checks.refused("chosen()", STATE, LeastKnown::new, x -> x.chosen());
        for (int law = 0; law < 4; law++) {
            LeastKnown x = new LeastKnown();
            x.rules(law, 0);
            Checks.due("chosen() by LAW " + law, STATE, x.chosen());
        }
        LeastKnown gone = Towns.used();
        gone.clear();
        gone.town();
        Checks.due("chosen() when the PEOPLE are gone", STATE, gone.chosen());
    }

    // ---- 11

    private static void meetHowMany() {
        LeastKnown x = Checks.told(Checks.people(8) + "knows 0 7;mutual 3 4;");
        Checks.due("meet(0, 7): one KNOWS the other one", 1, x.meet(0, 7));
        Checks.due("meet(7, 0): both do", 0, x.meet(7, 0));
        Checks.due("meet(4, 3): both do", 0, x.meet(4, 3));
        Checks.due("meet(7, 6): none does", 2, x.meet(7, 6));
        Checks.due("pairs", 6, x.count(1));
        LeastKnown other = Checks.told(Checks.people(2) + "knows 0 1;");
        Checks.due("meet(1, 0)", 1, other.meet(1, 0));
        LeastKnown again = Checks.told(Checks.people(2) + "mutual 0 1;");
        again.meet(0, 1);
        Checks.due("SEEN this YEAR, where they KNEW each other", 0, again.seen(0, 1));
        Checks.due("SEEN this YEAR, the other way", 0, again.seen(1, 0));
    }

    private static void meetBad() {
        for (int p : NOBODY) {
            Checks.refused("meet(" + p + ", 0)", BAD, Towns::used, x -> x.meet(p, 0));
            Checks.refused("meet(0, " + p + ")", BAD, Towns::used, x -> x.meet(0, p));
            Checks.refused("meet(3, " + p + ")", BAD, Towns::used, x -> x.meet(3, p));
        }
        Checks.refused("meet(7, 8)", BAD, () -> Checks.told(Checks.people(8)), x -> x.meet(7, 8));
        Checks.refused("meet(8, 7)", BAD, () -> Checks.told(Checks.people(8)), x -> x.meet(8, 7));
        Checks.refused("meet(0, 1) of one", BAD, () -> Checks.told("person;"), x -> x.meet(0, 1));
    }

    private static void meetAlike() {
        for (int p = 0; p < 4; p++) {
            int one = p;
            Checks.refused("meet(" + p + ", " + p + ")", BAD, Towns::used, x -> x.meet(one, one));
        }
        Checks.refused("meet(7, 7)", BAD, () -> Checks.told(Checks.people(8)), x -> x.meet(7, 7));
        Checks.refused("meet(0, 0) of one", BAD, () -> Checks.told("person;"), x -> x.meet(0, 0));
    }

    // ---- 12

    private static void introduceAnswers() {
        LeastKnown x = Checks.told(Checks.people(8) + "knows 7 0;");
        Checks.due("introduce(7, 6, 0)", 1, x.introduce(7, 6, 0));
        Checks.due("introduce(7, 6, 0) again", 0, x.introduce(7, 6, 0));
        Checks.due("introduce(6, 7, 0)", 0, x.introduce(6, 7, 0));
        Checks.due("introduce(6, 1, 0)", 1, x.introduce(6, 1, 0));
        Checks.due("COUNT", 3, x.person(0, 0));
        Checks.due("pairs", 3, x.count(1));
    }

    private static void introduceSeen() {
        LeastKnown x = Checks.told(Checks.people(3) + "knows 0 1;knows 2 1;law just 2;");
        Checks.due("introduce(0, 2, 1)", 0, x.introduce(0, 2, 1));
        Checks.due("SEEN this YEAR", 0, x.seen(2, 1));
        Checks.due("a's own stays", -1, x.seen(0, 1));
        LeastKnown late = Checks.told(quiet(4, 0) + "knows 3 1;knows 2 1;");
        late.go(99);
        Checks.due("introduce(3, 2, 1) in YEAR 99", 0, late.introduce(3, 2, 1));
        Checks.due("SEEN this YEAR", 99, late.seen(2, 1));
        Checks.due("a's own stays", -1, late.seen(3, 1));
    }

    private static void introduceBad() {
        for (int p : NOBODY) {
            Checks.refused("introduce(" + p + ", 1, 0)", BAD, Towns::used, x -> x.introduce(p, 1, 0));
            Checks.refused("introduce(3, " + p + ", 0)", BAD, Towns::used, x -> x.introduce(3, p, 0));
            Checks.refused("introduce(3, 1, " + p + ")", BAD, Towns::used, x -> x.introduce(3, 1, p));
        }
        Checks.refused("introduce(7, 8, 0)", BAD, () -> Towns.friends(8), x -> x.introduce(7, 8, 0));
        Checks.refused("introduce(0, 1, 2) of two", BAD, () -> Towns.friends(2), x -> x.introduce(0, 1, 2));
    }

    private static void introduceAlike() {
        int[][] alike = {{3, 3, 0}, {3, 0, 3}, {1, 3, 3}, {3, 0, 0}, {0, 0, 0}, {3, 3, 3}, {1, 1, 2}, {2, 1, 2}};
        for (int[] row : alike) {
            Checks.refused("introduce(" + row[0] + ", " + row[1] + ", " + row[2] + ")", BAD, Towns::used,
                x -> x.introduce(row[0], row[1], row[2]));
        }
    }

    private static void introduceState() {
        LeastKnown x = Towns.used();
        Checks.due("0 does not KNOW 2", 0, x.knows(0, 2));
        Checks.refused("introduce(0, 1, 2)", STATE, Towns::used, y -> y.introduce(0, 1, 2));
        Checks.refused("introduce(0, 3, 1), b KNOWS c", STATE, () -> Checks.told(Checks.people(4) + "knows 3 1;"),
            y -> y.introduce(0, 3, 1));
        LeastKnown oneWay = Checks.told(Checks.people(3) + "knows 1 0;");
        Checks.due("c KNOWS a alone", STATE, oneWay.introduce(0, 2, 1));
        LeastKnown moved = Towns.friends(3);
        moved.moves(2);
        Checks.due("a KNOWS c no more", STATE, moved.introduce(0, 1, 2));
        Checks.due("c KNOWS a still", 0, moved.introduce(2, 1, 0));
        Checks.refused("introduce(0, 1, 2)", STATE, () -> Checks.told(Checks.people(3)), y -> y.introduce(0, 1, 2));
    }

    // ---- 13

    private static void movesCount() {
        LeastKnown x = Checks.told(stairs());
        for (int p = 7; p >= 0; p--) {
            Checks.due("moves(" + p + ")", p, x.moves(p));
            Checks.due("COUNT", 0, x.person(p, 0));
            Checks.due("moves(" + p + ") again", 0, x.moves(p));
        }
        Checks.due("one alone", 0, Checks.told("person;").moves(0));
    }

    private static void movesBad() {
        for (int p : NOBODY) {
            Checks.refused("moves(" + p + ")", BAD, Towns::used, x -> x.moves(p));
        }
        Checks.refused("moves(8)", BAD, () -> Towns.friends(8), x -> x.moves(8));
        Checks.due("moves(7)", 7, Towns.friends(8).moves(7));
    }

    // ---- 14

    private static void goSprings() {
        for (int n = 1; n <= 99; n++) {
            LeastKnown x = Checks.told("person;");
            Checks.due("go(" + n + ")", 0, x.go(n));
            Checks.due("YEAR", n, x.now(0));
            Checks.due("reigned", n, x.person(0, 3));
        }
    }

    private static void goLeft() {
        int[][] rows = {{1, 99}, {98, 1}, {98, 2}, {98, 99}, {50, 49}, {50, 50}, {97, 3}};
        for (int[] row : rows) {
            LeastKnown x = Checks.told(Checks.people(2));
            x.go(row[0]);
            Checks.due("go(" + row[1] + ") in YEAR " + row[0], 0, x.go(row[1]));
            Checks.due("YEAR", 99, x.now(0));
            Checks.due("reigned", 99, x.person(0, 3) + x.person(1, 3));
        }
        LeastKnown one = Checks.told("person;");
        one.go(97);
        Checks.due("go(1) in YEAR 97", 0, one.go(1));
        Checks.due("YEAR", 98, one.now(0));
    }

    private static void goLast() {
        LeastKnown x = Checks.told(Checks.people(8) + "forgets 7;");
        int[] n = {1, 7, 1, 1, 8, 5};
        int[] last = {0, 7, 0, 1, 1, 6};
        for (int i = 0; i < n.length; i++) {
            Checks.due("go(" + n[i] + ")", last[i], x.go(n[i]));
            Checks.due("now(1)", last[i], x.now(1));
        }
        Checks.due("the last of those that were left", 98 % 8, x.go(99));
    }

    private static void goBad() {
        int[] bad = {0, -1, 100, 101, 256 + 1, 65536 + 1, MIN, MIN + 1, MAX};
        for (int n : bad) {
            Checks.refused("go(" + n + ")", BAD, Towns::used, x -> x.go(n));
        }
    }

    private static void goLastYear() {
        int[] all = {1, 2, 98, 99};
        for (int n : all) {
            Checks.refused("go(" + n + ")", STATE, Towns::inLastYear, x -> x.go(n));
        }
        LeastKnown x = Towns.inLastYear();
        x.back(0);
        x.go(1);
        Checks.due("behind back()", 3, x.now(0));
        LeastKnown y = Towns.inLastYear();
        y.anew();
        y.go(1);
        Checks.due("behind anew()", 1, y.now(0));
    }

    private static void goNoPeople() {
        int[] all = {1, 99};
        for (int n : all) {
            Checks.refused("go(" + n + ")", STATE, Towns::empty, x -> x.go(n));
            Checks.refused("go(" + n + ")", STATE, LeastKnown::new, x -> x.go(n));
        }
    }

    private static void goBadAheadOfState() {
        int[] bad = {0, -1, 100, MIN, MAX};
        for (int n : bad) {
            Checks.refused("go(" + n + ") in YEAR 99", BAD, Towns::inLastYear, x -> x.go(n));
            Checks.refused("go(" + n + ") of no PEOPLE", BAD, Towns::empty, x -> x.go(n));
        }
    }

    // ---- 15

    private static void nowTells() {
        LeastKnown x = Checks.told(stairs());
        Checks.due("now(0)", 0, x.now(0));
        Checks.due("now(1)", NONE, x.now(1));
        Checks.due("now(2)", 28, x.now(2));
        x.go(1);
        Checks.due("now(0)", 1, x.now(0));
        Checks.due("now(1)", 0, x.now(1));
        Checks.due("now(2)", 35, x.now(2));
        x.go(98);
        Checks.due("now(0)", 99, x.now(0));
        Checks.due("now(2) of all", 56, x.now(2));
        Checks.due("now(2) of one", 0, Checks.told("person;").now(2));
        Checks.due("now(2) of no PEOPLE", 0, new LeastKnown().now(2));
    }

    private static void nowBad() {
        int[] bad = {-1, 3, 4, 256, MIN, MAX};
        for (int what : bad) {
            Checks.refused("now(" + what + ")", BAD, Towns::used, x -> x.now(what));
            Checks.refused("now(" + what + ")", BAD, LeastKnown::new, x -> x.now(what));
        }
    }

    // ---- 16

    private static void anewNow() {
        String town = Checks.people(4) + "knows 0 1;mutual 2 3;knows 3 0;calls 1 2;forgets 4;law just 3;";
        LeastKnown x = Checks.told(town);
        x.go(30);
        x.moves(0);
        x.meet(0, 1);
        x.anew();
        Checks.dueSame("all but IMAGES", Whole.now(Checks.told(town)), Whole.now(x));
        LeastKnown y = Checks.told(town);
        Checks.due("what comes of it", y.go(20), x.go(20));
        Checks.dueSame("what comes of it", Whole.now(y), Whole.now(x));
        LeastKnown never = Checks.told(Checks.people(3) + "law never;");
        never.go(2);
        Checks.due("two have reigned", 2, never.chosen());
        never.anew();
        Checks.due("nobody has", 0, never.chosen());
    }

    private static void anewYear() {
        LeastKnown x = Checks.told("person;");
        Checks.due("YEAR 0", 0, x.anew());
        x.go(1);
        Checks.due("YEAR 1", 1, x.anew());
        Checks.due("again", 0, x.anew());
        x.go(99);
        Checks.due("YEAR 99", 99, x.anew());
        Checks.due("no PEOPLE", 0, new LeastKnown().anew());
    }

    private static void anewAlone() {
        LeastKnown x = Towns.used();
        long trace = x.trace();
        int bytes = x.count(3);
        x.anew();
        Checks.due("LAW", 3, x.law(0));
        Checks.due("j", 4, x.law(1));
        Checks.due("FORGETS", 4, x.law(2));
        Checks.due("HABITS", 1, x.count(2));
        Checks.due("THE TEXT", bytes, x.count(3));
        Checks.due("THE TRACE", trace, x.trace());
        Checks.due("IMAGE 0", 2, x.back(0));
        Checks.due("IMAGE 1", 3, x.back(1));
    }
}
