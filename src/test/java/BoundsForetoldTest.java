import java.util.function.Supplier;
import java.util.function.ToLongFunction;

/** Promises 17 to 23 and the third part of Terms: each sentence that names a bound or a refusal. */
public final class BoundsForetoldTest {
    private static final int BAD = LeastKnown.BAD, STATE = LeastKnown.STATE, NONE = LeastKnown.NONE;
    private static final int MIN = Integer.MIN_VALUE, MAX = Integer.MAX_VALUE;
    private static final int[] NOBODY = {4, 5, 8, 9, 64, 256, 65536, -1, -4, 1 << 30, MIN, MAX};
    private static final int[] NO_CHOICE = {-1, 2, 3, 256, MIN, MAX};

    public static void main(String[] args) {
        Checks.sentence("Terms: from NOW; nothing is changed", BoundsForetoldTest::nothingChanges);
        Checks.sentence("17 reigns: 0: in the one that comes", BoundsForetoldTest::reignsNext);
        Checks.sentence("17 reigns: n 0 .. 40", BoundsForetoldTest::reignsFarthest);
        Checks.sentence("17 reigns: YEARS beyond 99, too", BoundsForetoldTest::reignsBeyond);
        Checks.sentence("17 reigns: BAD", BoundsForetoldTest::reignsBad);
        Checks.sentence("17 reigns: STATE: no PEOPLE", BoundsForetoldTest::reignsState);
        Checks.sentence("18 ring: the least p (1 .. 10)", BoundsForetoldTest::ringEach);
        Checks.sentence("18 ring: all SPRINGS 20 .. 39 YEARS on", BoundsForetoldTest::ringWindow);
        Checks.sentence("18 ring: from NOW, in YEAR 99, too", BoundsForetoldTest::ringNow);
        Checks.sentence("18 ring: STATE: no PEOPLE", BoundsForetoldTest::ringState);
        Checks.sentence("19 brings: the fewest pairs (0 .. 3)", BoundsForetoldTest::bringsFewest);
        Checks.sentence("19 brings: NONE", BoundsForetoldTest::bringsNone);
        Checks.sentence("19 brings: would 1: CHOSEN, 0: is not", BoundsForetoldTest::bringsWould);
        Checks.sentence("19 brings: no HABIT going", BoundsForetoldTest::bringsNoHabit);
        Checks.sentence("19 brings: pairs as 10 A and B, the first row", BoundsForetoldTest::bringsPairs);
        Checks.sentence("19 brings: pair i (0 .. 2; -5: not so many)", BoundsForetoldTest::bringsNotSoMany);
        Checks.sentence("19 brings: BAD", BoundsForetoldTest::bringsBad);
        Checks.sentence("20 days: k 1 .. 3", BoundsForetoldTest::daysEachK);
        Checks.sentence("20 days: f and i (left over by how many PEOPLE)", BoundsForetoldTest::daysLeftOver);
        Checks.sentence("20 days: where all behind it do likewise", BoundsForetoldTest::daysBehind);
        Checks.sentence("20 days: where none does: nobody", BoundsForetoldTest::daysNoneDoes);
        Checks.sentence("20 days: of several the first: nobody, then the least number", BoundsForetoldTest::daysFirst);
        Checks.sentence("20 days: no HABIT going", BoundsForetoldTest::daysNoHabit);
        Checks.sentence("20 days: one alone", BoundsForetoldTest::daysAlone);
        Checks.sentence("20 days: BAD", BoundsForetoldTest::daysBad);
        Checks.sentence("20 days: BAD (f: no such one, too)", BoundsForetoldTest::daysNobody);
        Checks.sentence("21 asks: the least number of others (0 .. 7)", BoundsForetoldTest::asksEach);
        Checks.sentence("21 asks: j 0 .. 8", BoundsForetoldTest::asksEachJ);
        Checks.sentence("21 asks: in the order of numbers", BoundsForetoldTest::asksOrder);
        Checks.sentence("21 asks: BAD", BoundsForetoldTest::asksBad);
        Checks.sentence("21 asks: BAD (j 0 .. 8)", BoundsForetoldTest::asksBadJ);
        Checks.sentence("22 party: 1, 0", BoundsForetoldTest::partyEach);
        Checks.sentence("22 party: (bits that there are not are left out)", BoundsForetoldTest::partyBits);
        Checks.sentence("22 party: none, one alone", BoundsForetoldTest::partyFew);
        Checks.sentence("23 parties: sets of two and more", BoundsForetoldTest::partiesTwo);
        Checks.sentence("23 parties: the most PEOPLE, of several the least bits", BoundsForetoldTest::partiesGreatest);
        Checks.sentence("23 parties: 0: none", BoundsForetoldTest::partiesNone);
        Checks.sentence("23 parties: all of eight", BoundsForetoldTest::partiesAll);
        Checks.sentence("23 parties: BAD", BoundsForetoldTest::partiesBad);
        Checks.end("BoundsForetoldTest");
    }

    private static void nothingChanges() {
        dueUnchanged("reigns(40)", x -> x.reigns(40));
        dueUnchanged("ring()", x -> x.ring());
        dueUnchanged("brings(2, 1, -1)", x -> x.brings(2, 1, -1));
        dueUnchanged("brings(3, 0, 2)", x -> x.brings(3, 0, 2));
        dueUnchanged("days(3, 0, 1, 0)", x -> x.days(3, 0, 1, 0));
        dueUnchanged("days(3, 3, 0, 1)", x -> x.days(3, 3, 0, 1));
        dueUnchanged("asks(0, 3)", x -> x.asks(0, 3));
        dueUnchanged("party(-1)", x -> x.party(-1));
        dueUnchanged("parties(1)", x -> x.parties(1));
    }

    private static void dueUnchanged(String call, ToLongFunction<LeastKnown> foretold) {
        Supplier<LeastKnown> in99 = Towns::inLastYear;
        Checks.refused(call, foretold.applyAsLong(Towns.used()), Towns::used, foretold);
        Checks.refused(call, foretold.applyAsLong(in99.get()), in99, foretold);
    }

    /** So many PEOPLE who reign by turns, in the order of numbers. */
    private static LeastKnown turns(int people) {
        return Checks.told(Checks.people(people) + "forgets " + (people - 1) + ";");
    }

    // ---- 17

    private static void reignsNext() {
        LeastKnown x = Checks.told(Checks.people(3) + "calls 0 1;");
        Checks.due("CHOSEN, as all are NOW", 0, x.chosen());
        Checks.due("reigns(0): by HABIT", 2, x.reigns(0));
        Checks.due("go(1)", 2, x.go(1));
        LeastKnown one = Checks.told("person;");
        Checks.due("reigns(0) of one", 0, one.reigns(0));
        Checks.due("reigns(40) of one", 0, one.reigns(40));
    }

    private static void reignsFarthest() {
        int[] people = {2, 3, 5, 7, 8};
        for (int n : people) {
            LeastKnown x = turns(n);
            for (int year = 0; year <= 40; year++) {
                Checks.due("reigns(" + year + ") of " + n, year % n, x.reigns(year));
            }
        }
    }

    private static void reignsBeyond() {
        LeastKnown x = turns(3);
        x.go(60);
        Checks.due("reigns(39): in YEAR 99", 99 % 3, x.reigns(39));
        Checks.due("reigns(40): in YEAR 100", 100 % 3, x.reigns(40));
        x.go(39);
        Checks.due("YEAR", 99, x.now(0));
        for (int n = 0; n <= 40; n++) {
            Checks.due("reigns(" + n + ") in YEAR 99", (99 + n) % 3, x.reigns(n));
        }
    }

    private static void reignsBad() {
        int[] bad = {-1, 41, 42, 99, 256, MIN, MAX};
        for (int n : bad) {
            Checks.refused("reigns(" + n + ")", BAD, Towns::used, x -> x.reigns(n));
            Checks.refused("reigns(" + n + ") of no PEOPLE: BAD ahead of STATE", BAD, Towns::empty, x -> x.reigns(n));
        }
    }

    private static void reignsState() {
        int[] all = {0, 1, 40};
        for (int n : all) {
            Checks.refused("reigns(" + n + ")", STATE, Towns::empty, x -> x.reigns(n));
            Checks.refused("reigns(" + n + ")", STATE, LeastKnown::new, x -> x.reigns(n));
        }
    }

    // ---- 18

    private static void ringEach() {
        Checks.due("one alone", 1, Checks.told("person;").ring());
        Checks.due("all KNOWN to all", 1, Checks.told(Checks.people(8)).ring());
        for (int p = 2; p <= 8; p++) {
            Checks.due("turns of " + p, p, turns(p).ring());
        }
        // Where all are KNOWN still, 0 reigns once more, and twice more.
        Checks.due("nine", 9, Checks.told(Checks.people(8) + "forgets 8;").ring());
        Checks.due("ten", 10, Checks.told(Checks.people(8) + "forgets 9;").ring());
    }

    private static void ringWindow() {
        LeastKnown never = Checks.told(Checks.people(8) + "law never;");
        Checks.due("what was ahead of 20 does not count", 1, never.ring());
        // 1 reigns 18 YEARS on, where 3 does 28 YEARS on; from 19 on each one has a RING of 10.
        LeastKnown late = Checks.told(Checks.people(4) + "forgets 9;law second;calls 0 2;");
        late.go(1);
        late.meet(3, 1);
        Checks.due("reigns(18)", 1, late.reigns(18));
        Checks.due("reigns(28)", 3, late.reigns(28));
        Checks.due("reigns(19)", 0, late.reigns(19));
        Checks.due("reigns(29)", 0, late.reigns(29));
        Checks.due("what was 18 YEARS on does not count", 10, late.ring());
        // 0 reigns, but for 2, who does 29 and 39 YEARS on.
        LeastKnown once = Checks.told(Checks.people(3) + "forgets 9;law second;");
        once.go(1);
        once.meet(0, 1);
        for (int n = 20; n < 40; n++) {
            Checks.due("reigns(" + n + ")", n % 10 == 9 ? 2 : 0, once.reigns(n));
        }
        Checks.due("39 counts", 10, once.ring());
    }

    private static void ringNow() {
        LeastKnown x = turns(4);
        x.go(99);
        Checks.due("in YEAR 99", 4, x.ring());
        LeastKnown quiet = Checks.told(Checks.people(3) + "forgets 2;");
        Checks.due("by LEAST", 3, quiet.ring());
        quiet.rules(2, 2);
        Checks.due("by JUST 2", 1, quiet.ring());
        LeastKnown met = Checks.told(Checks.people(3) + "calls 1 0;calls 2 1;forgets 1;law second;");
        Checks.due("by turns", 2, met.ring());
        met.meet(2, 0);
        met.moves(2);
        Checks.due("from NOW", 1, met.ring());
    }

    private static void ringState() {
        Checks.refused("ring()", STATE, Towns::empty, x -> x.ring());
        Checks.refused("ring()", STATE, LeastKnown::new, x -> x.ring());
    }

    // ---- 19

    private static void dueBrings(LeastKnown x, int p, int would, int pairs, int... row) {
        String call = "brings(" + p + ", " + would + ", ";
        Checks.due(call + "-1)", pairs, x.brings(p, would, -1));
        for (int i = 0; i < 3; i++) {
            int want = pairs == NONE ? NONE : i < row.length ? row[i] : -5;
            Checks.due(call + i + ")", want, x.brings(p, would, i));
        }
    }

    private static void bringsFewest() {
        LeastKnown x = Checks.told(Checks.people(8));
        dueBrings(x, 0, 1, 0);
        dueBrings(x, 1, 1, 1, 2);
        dueBrings(x, 2, 1, 1, 1);
        dueBrings(x, 3, 1, 2, 1, 2);
        dueBrings(x, 4, 1, 2, 1, 23);
        dueBrings(x, 5, 1, 3, 1, 2, 34);
        dueBrings(x, 6, 1, 3, 1, 23, 45);
        dueBrings(x, 7, 1, NONE);
    }

    private static void bringsNone() {
        dueBrings(Checks.told("person;"), 0, 0, NONE);
        dueBrings(Checks.told(Checks.people(2)), 1, 1, NONE);
        dueBrings(Checks.told(Checks.people(2)), 0, 0, NONE);
        dueBrings(Towns.friends(8), 7, 1, NONE);
        dueBrings(Towns.friends(8), 0, 0, NONE);
        LeastKnown never = Checks.told(Checks.people(8) + "law never;");
        never.go(7);
        dueBrings(never, 0, 1, NONE);
        dueBrings(never, 7, 0, NONE);
        dueBrings(never, 7, 1, 0);
    }

    private static void bringsWould() {
        LeastKnown x = Checks.told(Checks.people(4));
        dueBrings(x, 0, 1, 0);
        dueBrings(x, 0, 0, 1, 1);
        dueBrings(x, 3, 0, 0);
        dueBrings(Checks.told("person;"), 0, 1, 0);
        LeastKnown two = Checks.told(Checks.people(2) + "knows 1 0;");
        dueBrings(two, 0, 1, 1, 1);
        dueBrings(two, 1, 0, 1, 1);
        dueBrings(two, 1, 1, 0);
    }

    private static void bringsNoHabit() {
        LeastKnown x = Checks.told(Checks.people(3) + "calls 0 1;");
        dueBrings(x, 0, 1, 0);
        dueBrings(x, 2, 1, 1, 1);
        dueBrings(x, 1, 0, 0);
    }

    private static void bringsPairs() {
        // All KNOW one another, but for one pair: with it nothing is uneven any more.
        int[][] pairs = {{1, 2}, {3, 4}, {1, 7}, {5, 6}, {6, 7}};
        for (int[] pair : pairs) {
            LeastKnown x = allBut(pair[0], pair[1]);
            Checks.due("chosen() without the pair", pair[0], x.chosen());
            dueBrings(x, pair[0], 0, 1, 10 * pair[0] + pair[1]);
            dueBrings(x, 0, 1, 1, 10 * pair[0] + pair[1]);
        }
        LeastKnown second = Checks.told(Checks.people(4) + "law second;");
        dueBrings(second, 0, 1, 2, 1, 12);
        dueBrings(Checks.told(Checks.people(5) + "mutual 0 4;law just 3;"), 4, 1, 2, 14, 24);
        dueBrings(Checks.told(Checks.people(5) + "law just 3;"), 3, 1, 2, 1, 2);
    }

    private static LeastKnown allBut(int a, int b) {
        LeastKnown x = Checks.told(Checks.people(8));
        for (int p = 0; p < 8; p++) {
            for (int q = 0; q < p; q++) {
                if (q != a || p != b) {
                    x.meet(p, q);
                }
            }
        }
        return x;
    }

    private static void bringsNotSoMany() {
        LeastKnown x = Checks.told(Checks.people(8));
        int[] one = {0, 1, 2, 3, 4, 5, 6};
        int[] many = {0, 1, 1, 2, 2, 3, 3};
        for (int p : one) {
            for (int i = 0; i < 3; i++) {
                int there = x.brings(p, 1, i) == -5 ? 0 : 1;
                Checks.due("brings(" + p + ", 1, " + i + ") is there", i < many[p] ? 1 : 0, there);
            }
        }
        Checks.due("a row behind a longer one: pair 1", -5, x.brings(1, 1, 1));
        Checks.due("a row behind a longer one: pair 0", -5, x.brings(0, 1, 0));
    }

    private static void bringsBad() {
        for (int p : NOBODY) {
            Checks.refused("brings(" + p + ", 1, -1)", BAD, Towns::used, x -> x.brings(p, 1, -1));
        }
        for (int would : NO_CHOICE) {
            Checks.refused("brings(0, " + would + ", -1)", BAD, Towns::used, x -> x.brings(0, would, -1));
        }
        int[] bad = {-2, 3, 4, -5, 256, MIN, MAX};
        for (int i : bad) {
            Checks.refused("brings(0, 1, " + i + ")", BAD, Towns::used, x -> x.brings(0, 1, i));
            Checks.refused("brings(7, 1, " + i + "), where there is NONE", BAD, () -> Towns.friends(8),
                x -> x.brings(7, 1, i));
        }
        Checks.due("brings(8, 1, -1) of eight", BAD, Towns.friends(8).brings(8, 1, -1));
        Checks.due("brings(7, 1, -1) of eight", NONE, Towns.friends(8).brings(7, 1, -1));
    }

    // ---- 20

    private static void dueDays(LeastKnown x, int k, int f, int would, int act, int ruler) {
        Checks.due("days(" + k + ", " + f + ", " + would + ", 0)", act, x.days(k, f, would, 0));
        Checks.due("days(" + k + ", " + f + ", " + would + ", 1)", ruler, x.days(k, f, would, 1));
    }

    /** Of two 1 is CHOSEN; once they MEET, 0 is. */
    private static LeastKnown two() {
        return Checks.told(Checks.people(2) + "knows 1 0;");
    }

    private static void daysEachK() {
        dueDays(two(), 1, 0, 1, 1, 0);
        dueDays(two(), 1, 1, 1, NONE, 1);
        // Behind 0 comes 1, who would do nothing; so 0 must.
        dueDays(two(), 2, 0, 1, 1, 0);
        // Behind 1 comes 0, who will: whatever 1 does, 0 is CHOSEN.
        dueDays(two(), 2, 1, 1, NONE, 0);
        // 0 comes again on the third day, so it need do nothing on the first.
        dueDays(two(), 3, 0, 1, NONE, 0);
        dueDays(two(), 3, 1, 1, NONE, 0);
    }

    private static void daysLeftOver() {
        // With so many days 0 comes again, or 1: one that comes last has its way.
        dueDays(two(), 3, 1, 0, NONE, 0);
        dueDays(two(), 2, 0, 0, NONE, 0);
        dueDays(two(), 1, 0, 0, NONE, 1);
        // JUST 1: of two who MEET the lesser one is CHOSEN. Behind 2 comes 0, who is CHOSEN without doing anything.
        LeastKnown x = Checks.told(Checks.people(3) + "law just 1;");
        dueDays(x, 1, 2, 0, NONE, 0);
        dueDays(x, 2, 2, 0, NONE, 0);
        dueDays(x, 1, 1, 1, 2, 1);
        // Behind 7 of eight comes 0: CHOSEN with a COUNT of 1, but with 2 not, when it MEETS 2 (1 KNOWS it already).
        LeastKnown eight = Checks.told(Checks.people(8) + "knows 1 0;law just 1;");
        dueDays(eight, 1, 7, 0, NONE, 0);
        dueDays(eight, 1, 0, 0, 2, 2);
        dueDays(eight, 2, 7, 0, NONE, 2);
        dueDays(eight, 2, 6, 0, NONE, 0);
        dueDays(eight, 3, 6, 0, NONE, 2);
    }

    private static void daysBehind() {
        // COUNTS 2, 0, 0: 1 is CHOSEN, till it MEETS 0; 2, CHOSEN then, MEETS 0 the day behind, and 1 is CHOSEN again.
        LeastKnown x = Checks.told(Checks.people(3) + "knows 1 0;knows 2 0;");
        dueDays(x, 1, 1, 0, 0, 2);
        dueDays(x, 2, 1, 0, NONE, 1);
        // On the third day 0, who is not CHOSEN in any case, does nothing.
        dueDays(x, 3, 1, 0, NONE, 1);
        // 0 must MEET 1 on the first day: on the second 1 would do nothing.
        dueDays(two(), 2, 0, 1, 1, 0);
    }

    private static void daysNoneDoes() {
        LeastKnown friends = Towns.friends(8);
        for (int k = 1; k <= 3; k++) {
            dueDays(friends, k, 7, 1, NONE, 0);
            dueDays(friends, k, 0, 0, NONE, 0);
        }
        dueDays(Checks.told(Checks.people(2)), 1, 1, 1, NONE, 0);
        dueDays(Checks.told(Checks.people(2)), 1, 0, 0, NONE, 0);
    }

    private static void daysFirst() {
        LeastKnown x = Checks.told(Checks.people(4));
        dueDays(x, 1, 0, 1, NONE, 0);
        dueDays(x, 1, 0, 0, 1, 2);
        dueDays(x, 1, 3, 0, NONE, 0);
        // COUNTS 1, 2, 1, 0: by meeting 1, who KNOWS it, 0 stays at 1; by meeting 2 or 3 it does not.
        LeastKnown just = Checks.told(Checks.people(4) + "knows 1 0;knows 2 1;knows 3 1;knows 0 2;law just 1;");
        dueDays(just, 1, 0, 0, 2, 2);
        dueDays(just, 1, 3, 1, NONE, 0);
        LeastKnown last = Checks.told(Checks.people(4) + "mutual 0 1;");
        dueDays(last, 1, 2, 0, 0, 3);
        dueDays(last, 1, 3, 1, NONE, 2);
        // COUNTS 7 .. 7, 6, 6: 6 is CHOSEN, till it MEETS 7, the last of those it may.
        dueDays(allBut(6, 7), 1, 6, 0, 7, 0);
        dueDays(allBut(6, 7), 1, 7, 0, NONE, 6);
    }

    private static void daysNoHabit() {
        LeastKnown x = Checks.told(Checks.people(3) + "calls 0 1;");
        dueDays(x, 1, 2, 1, NONE, 0);
        dueDays(x, 1, 2, 0, NONE, 0);
        dueDays(x, 1, 0, 1, NONE, 0);
    }

    private static void daysAlone() {
        LeastKnown x = Checks.told("person;");
        for (int k = 1; k <= 3; k++) {
            dueDays(x, k, 0, 1, NONE, 0);
            dueDays(x, k, 0, 0, NONE, 0);
        }
    }

    private static void daysBad() {
        int[] bad = {0, 4, -1, 5, 256 + 1, MIN, MAX};
        for (int k : bad) {
            Checks.refused("days(" + k + ", 0, 1, 0)", BAD, Towns::used, x -> x.days(k, 0, 1, 0));
        }
        for (int none : NO_CHOICE) {
            Checks.refused("days(1, 0, " + none + ", 0)", BAD, Towns::used, x -> x.days(1, 0, none, 0));
            Checks.refused("days(3, 3, 1, " + none + ")", BAD, Towns::used, x -> x.days(3, 3, 1, none));
        }
    }

    private static void daysNobody() {
        for (int f : NOBODY) {
            Checks.refused("days(1, " + f + ", 1, 0)", BAD, Towns::used, x -> x.days(1, f, 1, 0));
            Checks.refused("days(3, " + f + ", 0, 1)", BAD, Towns::used, x -> x.days(3, f, 0, 1));
        }
        Checks.due("days(1, 8, 1, 1) of eight", BAD, Towns.friends(8).days(1, 8, 1, 1));
        Checks.due("days(1, 7, 1, 1) of eight", 0, Towns.friends(8).days(1, 7, 1, 1));
    }

    // ---- 21

    private static void asksEach() {
        LeastKnown none = Checks.told(Checks.people(8));
        LeastKnown all = Towns.friends(8);
        for (int p = 0; p < 8; p += 7) {
            for (int j = 1; j <= 7; j++) {
                Checks.due("asks(" + p + ", " + j + "), nobody KNOWS it", 8 - j, none.asks(p, j));
                Checks.due("asks(" + p + ", " + j + "), all KNOW it", j, all.asks(p, j));
            }
        }
        Checks.due("one alone: whether it is 1", 0, Checks.told("person;").asks(0, 1));
    }

    private static void asksEachJ() {
        for (int people = 1; people <= 8; people++) {
            LeastKnown x = Towns.friends(people);
            Checks.due("asks(0, 0) of " + people, 0, x.asks(0, 0));
            Checks.due("asks(0, " + (people - 1) + ")", people - 1, x.asks(0, people - 1));
            for (int j = people; j <= 8; j++) {
                Checks.due("asks(0, " + j + ") of " + people, 0, x.asks(0, j));
            }
        }
    }

    private static void asksOrder() {
        LeastKnown x = Checks.told(Checks.people(5) + "knows 0 2;knows 4 2;");
        int[] due = {0, 1, 4, 3, 2, 0, 0, 0, 0};
        LeastKnown y = Checks.told(Checks.people(5) + "knows 1 2;knows 3 2;");
        int[] dueY = {0, 2, 3, 4, 1, 0, 0, 0, 0};
        for (int j = 0; j <= 8; j++) {
            Checks.due("asks(2, " + j + "), 0 and 4 KNOW it", due[j], x.asks(2, j));
            Checks.due("asks(2, " + j + "), 1 and 3 KNOW it", dueY[j], y.asks(2, j));
        }
    }

    private static void asksBad() {
        for (int p : NOBODY) {
            Checks.refused("asks(" + p + ", 0)", BAD, Towns::used, x -> x.asks(p, 0));
            Checks.refused("asks(" + p + ", 2)", BAD, Towns::used, x -> x.asks(p, 2));
        }
        Checks.due("asks(8, 1) of eight", BAD, Towns.friends(8).asks(8, 1));
    }

    private static void asksBadJ() {
        int[] bad = {-1, 9, 10, 256, MIN, MAX};
        for (int j : bad) {
            Checks.refused("asks(0, " + j + ")", BAD, Towns::used, x -> x.asks(0, j));
            Checks.due("asks(7, " + j + ") of eight", BAD, Towns.friends(8).asks(7, j));
        }
    }

    // ---- 22

    private static LeastKnown threeFriends() {
        return Checks.told(Checks.people(4) + "mutual 0 1;mutual 1 3;mutual 0 3;knows 2 0;knows 1 2;");
    }

    private static void partyEach() {
        LeastKnown x = threeFriends();
        int[] yes = {1 + 2, 2 + 8, 1 + 8, 1 + 2 + 8};
        int[] no = {1 + 4, 2 + 4, 4 + 8, 1 + 2 + 4, 1 + 4 + 8, 2 + 4 + 8, 15};
        for (int set : yes) {
            Checks.due("party(" + set + ")", 1, x.party(set));
        }
        for (int set : no) {
            Checks.due("party(" + set + "), one way alone or none", 0, x.party(set));
        }
        Checks.due("all of eight", 1, Towns.friends(8).party(255));
        Checks.due("all of eight but one way", 0, allBut(6, 7).party(255));
        Checks.due("the others of them", 1, allBut(6, 7).party(127));
    }

    private static void partyBits() {
        LeastKnown x = threeFriends();
        int[] beyond = {16, 32, 64, 128, 256, 65536, 1 << 30, MIN, ~15};
        for (int bits : beyond) {
            Checks.due("party(11 | " + bits + ")", 1, x.party(11 | bits));
            Checks.due("party(15 | " + bits + ")", 0, x.party(15 | bits));
            Checks.due("party(" + bits + ")", 1, x.party(bits));
        }
        Checks.due("party(-1)", 0, x.party(-1));
        Checks.due("party(MAX)", 0, x.party(MAX));
        LeastKnown eight = Towns.friends(8);
        Checks.due("party(-1) of eight", 1, eight.party(-1));
        Checks.due("party(256) of eight", 1, eight.party(256));
        Checks.due("party(-1) of one", 1, Checks.told("person;").party(-1));
    }

    private static void partyFew() {
        LeastKnown x = Checks.told(Checks.people(8));
        Checks.due("party(0)", 1, x.party(0));
        for (int p = 0; p < 8; p++) {
            Checks.due("party of " + p, 1, x.party(1 << p));
        }
        Checks.due("party(3)", 0, x.party(3));
        Checks.due("party(0) of no PEOPLE", 1, new LeastKnown().party(0));
        Checks.due("party(MAX) of no PEOPLE", 1, new LeastKnown().party(MAX));
    }

    // ---- 23

    private static void partiesTwo() {
        LeastKnown x = Checks.told(Checks.people(2) + "mutual 0 1;");
        Checks.due("two", 1, x.parties(0));
        Checks.due("two", 3, x.parties(1));
        LeastKnown three = threeFriends();
        Checks.due("three pairs, and all three", 4, three.parties(0));
        Checks.due("all three", 11, three.parties(1));
        LeastKnown last = Checks.told(Checks.people(8) + "mutual 6 7;");
        Checks.due("the last two", 1, last.parties(0));
        Checks.due("the last two", 128 + 64, last.parties(1));
    }

    private static void partiesGreatest() {
        LeastKnown x = Checks.told(Checks.people(6) + "mutual 0 5;mutual 1 2;mutual 3 4;");
        Checks.due("three pairs", 3, x.parties(0));
        Checks.due("the least bits", 2 + 4, x.parties(1));
        x.meet(3, 5);
        x.meet(4, 5);
        Checks.due("one of three PEOPLE", 6, x.parties(0));
        Checks.due("the most PEOPLE, not the least bits", 8 + 16 + 32, x.parties(1));
    }

    private static void partiesNone() {
        int[] people = {0, 1, 2, 8};
        for (int n : people) {
            LeastKnown x = Checks.told(Checks.people(n));
            Checks.due("parties(0) of " + n, 0, x.parties(0));
            Checks.due("parties(1) of " + n, 0, x.parties(1));
        }
        LeastKnown oneWay = Checks.told(Checks.people(3) + "knows 0 1;knows 1 2;knows 2 0;");
        Checks.due("one way alone", 0, oneWay.parties(0));
        Checks.due("one way alone", 0, oneWay.parties(1));
    }

    private static void partiesAll() {
        for (int n = 2; n <= 8; n++) {
            LeastKnown x = Towns.friends(n);
            Checks.due("parties(0) of " + n, (1 << n) - 1 - n, x.parties(0));
            Checks.due("parties(1) of " + n, (1 << n) - 1, x.parties(1));
        }
    }

    private static void partiesBad() {
        for (int what : NO_CHOICE) {
            Checks.refused("parties(" + what + ")", BAD, Towns::used, x -> x.parties(what));
            Checks.refused("parties(" + what + ")", BAD, LeastKnown::new, x -> x.parties(what));
        }
    }
}
