/** Promises 17 to 23: what would come of NOW. */
public final class ForetoldTest {
    private static final int MIN = Integer.MIN_VALUE, MAX = Integer.MAX_VALUE;

    public static void main(String[] args) {
        reigns();
        ring();
        brings();
        bringsRefused();
        days();
        daysRefused();
        asks();
        party();
        parties();
        nothingChanges();
        Checks.end("ForetoldTest");
    }

    private static void reigns() {
        LeastKnown none = new LeastKnown();
        Checks.due("no PEOPLE", LeastKnown.STATE, none.reigns(0));
        Checks.due("BAD ahead of STATE", LeastKnown.BAD, none.reigns(-1));
        String town = Checks.people(5) + "knows 0 1;mutual 2 3;calls 4 2;calls 0 3;forgets 3;law second;";
        LeastKnown x = Checks.told(town);
        LeastKnown y = Checks.told(town);
        for (int n = 0; n <= 40; n++) {
            Checks.due("reigns(" + n + ")", y.go(1), x.reigns(n));
        }
        int[] bad = {-1, 41, MIN, MAX};
        for (int n : bad) {
            Checks.due("reigns(" + n + ")", LeastKnown.BAD, x.reigns(n));
        }
        LeastKnown late = Checks.told(Checks.people(3) + "mutual 0 1;mutual 1 2;mutual 0 2;law never;");
        Checks.due("go(99)", 0, late.go(99));
        late.moves(2);
        Checks.due("in YEAR 99", 2, late.reigns(0));
        Checks.due("beyond 99", 0, late.reigns(1));
        Checks.due("beyond 99", 0, late.reigns(40));
    }

    private static void ring() {
        Checks.due("no PEOPLE", LeastKnown.STATE, new LeastKnown().ring());
        Checks.due("one alone", 1, Checks.told("person;").ring());
        // Each one is forgotten a year on: two, three .. take turns.
        for (int n = 2; n <= 8; n++) {
            LeastKnown x = Checks.told(Checks.people(n) + "forgets " + (n - 1) + ";");
            Checks.due("ring() of " + n, n, x.ring());
        }
        Checks.due("FORGETS 9 and 8 PEOPLE", ringByHand(Checks.people(8) + "forgets 9;"),
            Checks.told(Checks.people(8) + "forgets 9;").ring());
        Checks.due("all known to all", 1, Checks.told(Checks.people(3)).ring());
        String uneven = Checks.people(6) + "calls 0 1;calls 2 3;calls 3 5;forgets 7;law second;";
        Checks.due("uneven", ringByHand(uneven), Checks.told(uneven).ring());
        LeastKnown now = Checks.told(Checks.people(3) + "calls 1 0;calls 2 1;forgets 1;law second;");
        Checks.due("by turns", 2, now.ring());
        now.meet(2, 0);
        now.moves(2);
        Checks.due("from NOW", 1, now.ring());
    }

    private static int ringByHand(String town) {
        LeastKnown x = Checks.told(town);
        int[] rulers = new int[40];
        for (int i = 0; i < 40; i++) {
            rulers[i] = x.go(1);
        }
        for (int p = 1; p <= 10; p++) {
            boolean same = true;
            for (int i = 20; i + p < 40; i++) {
                same &= rulers[i] == rulers[i + p];
            }
            if (same) {
                return p;
            }
        }
        return LeastKnown.NONE;
    }

    private static void brings() {
        LeastKnown x = Checks.told(Checks.people(4));
        dueBrings(x, 0, 1, 0);
        dueBrings(x, 0, 0, 1, 1);
        dueBrings(x, 1, 1, 1, 2);
        dueBrings(x, 2, 1, 1, 1);
        dueBrings(x, 3, 1, 2, 1, 2);
        dueBrings(x, 3, 0, 0);
        LeastKnown four = Checks.told(Checks.people(8));
        dueBrings(four, 6, 1, 3, 1, 23, 45);
        dueBrings(four, 7, 1, LeastKnown.NONE);
        dueBrings(four, 5, 1, 3, 1, 2, 34);
        LeastKnown second = Checks.told(Checks.people(4) + "law second;");
        dueBrings(second, 1, 1, 0);
        dueBrings(second, 0, 1, 2, 1, 12);
        dueBrings(second, 3, 1, 1, 1);
        LeastKnown just = Checks.told(Checks.people(5) + "law just 3;");
        dueBrings(just, 0, 1, 0);
        dueBrings(just, 0, 0, 1, 1);
        dueBrings(just, 1, 1, 1, 2);
        LeastKnown just3 = Checks.told(Checks.people(5) + "mutual 0 4;law just 3;");
        dueBrings(just3, 4, 1, 2, 14, 24);
        LeastKnown habits = Checks.told(Checks.people(3) + "calls 0 1;");
        dueBrings(habits, 0, 1, 0);
        LeastKnown never = Checks.told(Checks.people(3) + "law never;");
        never.go(1);
        dueBrings(never, 0, 1, LeastKnown.NONE);
        dueBrings(never, 1, 1, 0);
        dueBrings(never, 2, 1, 1, 1);
        dueBrings(Checks.told(Checks.people(2)), 1, 1, LeastKnown.NONE);
        dueBrings(Checks.told(Checks.people(2) + "law just 1;"), 1, 1, LeastKnown.NONE);
        dueBrings(Checks.told(Checks.people(4) + "knows 2 0;law just 2;"), 0, 1, 1, 1);
        dueBrings(Checks.told("person;"), 0, 0, LeastKnown.NONE);
        dueBrings(Checks.told("person;"), 0, 1, 0);
    }

    private static void dueBrings(LeastKnown x, int p, int would, int pairs, int... row) {
        String call = "brings(" + p + ", " + would + ", ";
        Checks.due(call + "-1)", pairs, x.brings(p, would, -1));
        for (int i = 0; i < 3; i++) {
            int want = pairs == LeastKnown.NONE ? LeastKnown.NONE : i < row.length ? row[i] : -5;
            Checks.due(call + i + ")", want, x.brings(p, would, i));
        }
    }

    private static void bringsRefused() {
        LeastKnown x = Checks.told(Checks.people(4));
        int[][] bad = {{4, 0, 0}, {-1, 0, 0}, {0, 2, 0}, {0, -1, 0}, {0, 0, 3}, {0, 0, -2}, {MIN, 0, 0}, {0, MAX, 0},
            {0, 0, MIN}, {0, 0, MAX}};
        for (int[] row : bad) {
            Checks.due("brings", LeastKnown.BAD, x.brings(row[0], row[1], row[2]));
        }
        Checks.due("no PEOPLE", LeastKnown.BAD, new LeastKnown().brings(0, 0, 0));
    }

    private static void days() {
        // Nobody has a COUNT of 1, so 0 would be CHOSEN; of two who MEET the one with the least number is.
        LeastKnown x = Checks.told(Checks.people(3) + "law just 1;");
        dueDays(x, 1, 1, 1, 2, 1);
        dueDays(x, 1, 1, 0, LeastKnown.NONE, 0);
        dueDays(x, 1, 0, 0, LeastKnown.NONE, 0);
        dueDays(x, 1, 0, 1, LeastKnown.NONE, 0);
        dueDays(x, 1, 2, 1, LeastKnown.NONE, 0);
        // If 0 did nothing, 1 would MEET 2; having met 1, it keeps its COUNT of 1 whatever 1 does.
        dueDays(x, 2, 0, 1, 1, 0);
        // On the second day it is 0's turn again.
        dueDays(x, 2, 2, 0, LeastKnown.NONE, 0);
        dueDays(x, 2, 2, 1, LeastKnown.NONE, 0);
        LeastKnown alone = Checks.told("person;");
        dueDays(alone, 3, 0, 0, LeastKnown.NONE, 0);
        dueDays(alone, 3, 0, 1, LeastKnown.NONE, 0);
        LeastKnown two = Checks.told(Checks.people(2) + "knows 1 0;");
        dueDays(two, 1, 1, 0, 0, 0);
        dueDays(two, 1, 0, 1, 1, 0);
        dueDays(two, 1, 0, 0, LeastKnown.NONE, 1);
        // 1 would not; by meeting 0 it would have 2 CHOSEN, but 2 meets 0 then, and has it be 1 again.
        LeastKnown both = Checks.told(Checks.people(3) + "knows 1 0;knows 2 0;");
        dueDays(both, 1, 1, 0, 0, 2);
        dueDays(both, 2, 1, 0, LeastKnown.NONE, 1);
        LeastKnown habits = Checks.told(Checks.people(3) + "calls 0 1;");
        dueDays(habits, 1, 2, 1, LeastKnown.NONE, 0);
    }

    private static void dueDays(LeastKnown x, int k, int f, int would, int act, int ruler) {
        Checks.due("days(" + k + ", " + f + ", " + would + ", 0)", act, x.days(k, f, would, 0));
        Checks.due("days(" + k + ", " + f + ", " + would + ", 1)", ruler, x.days(k, f, would, 1));
    }

    private static void daysRefused() {
        LeastKnown x = Checks.told(Checks.people(3));
        int[][] bad = {{0, 0, 0, 0}, {4, 0, 0, 0}, {1, 3, 0, 0}, {1, -1, 0, 0}, {1, 0, 2, 0}, {1, 0, -1, 0},
            {1, 0, 0, 2}, {1, 0, 0, -1}, {MIN, 0, 0, 0}, {1, MAX, 0, 0}, {1, 0, MIN, 0}, {1, 0, 0, MAX}};
        for (int[] row : bad) {
            Checks.due("days", LeastKnown.BAD, x.days(row[0], row[1], row[2], row[3]));
        }
        Checks.due("no PEOPLE", LeastKnown.BAD, new LeastKnown().days(1, 0, 0, 0));
    }

    private static void asks() {
        LeastKnown x = Checks.told(Checks.people(5) + "knows 1 0;knows 3 0;knows 0 2;knows 4 2;");
        int[] of0 = {0, 1, 3, 4, 2, 0, 0, 0, 0};
        int[] of2 = {0, 1, 4, 3, 2, 0, 0, 0, 0};
        int[] of4 = {0, 4, 3, 2, 1, 0, 0, 0, 0};
        for (int j = 0; j <= 8; j++) {
            Checks.due("asks(0, " + j + ")", of0[j], x.asks(0, j));
            Checks.due("asks(2, " + j + ")", of2[j], x.asks(2, j));
            Checks.due("asks(4, " + j + ")", of4[j], x.asks(4, j));
        }
        LeastKnown all = Checks.told(Checks.people(8));
        Checks.due("asks(7, 1) of nobody", 7, all.asks(7, 1));
        Checks.due("asks(7, 7) of nobody", 1, all.asks(7, 7));
        Checks.due("asks(7, 8)", 0, all.asks(7, 8));
        int[][] bad = {{8, 0}, {-1, 0}, {0, 9}, {0, -1}, {MIN, 0}, {0, MAX}};
        for (int[] row : bad) {
            Checks.due("asks", LeastKnown.BAD, all.asks(row[0], row[1]));
        }
        Checks.due("no PEOPLE", LeastKnown.BAD, new LeastKnown().asks(0, 0));
    }

    private static void party() {
        LeastKnown x = Checks.told(Checks.people(4) + "mutual 0 1;mutual 1 2;mutual 0 2;knows 3 0;");
        int[] yes = {0, 1, 2, 4, 8, 3, 5, 6, 7, 16, 1 << 8 | 7, MIN, MIN | 3, 1 << 30 | 1};
        int[] no = {9, 10, 15, -1, MAX, 11};
        for (int set : yes) {
            Checks.due("party(" + set + ")", 1, x.party(set));
        }
        for (int set : no) {
            Checks.due("party(" + set + ")", 0, x.party(set));
        }
        Checks.due("no PEOPLE", 1, new LeastKnown().party(-1));
    }

    private static void parties() {
        LeastKnown none = new LeastKnown();
        Checks.due("no PEOPLE", 0, none.parties(0));
        Checks.due("no PEOPLE", 0, none.parties(1));
        LeastKnown x = Checks.told(Checks.people(5) + "mutual 0 1;mutual 3 4;mutual 3 2;knows 0 2;");
        Checks.due("three pairs", 3, x.parties(0));
        Checks.due("the least bits", 3, x.parties(1));
        x.meet(2, 4);
        Checks.due("a three, too", 5, x.parties(0));
        Checks.due("the most PEOPLE", 4 + 8 + 16, x.parties(1));
        LeastKnown oneWay = Checks.told(Checks.people(2) + "knows 0 1;");
        Checks.due("one way", 0, oneWay.parties(0));
        Checks.due("one way", 0, oneWay.parties(1));
        LeastKnown all = Checks.told(Checks.people(8));
        for (int a = 0; a < 8; a++) {
            for (int b = 0; b < a; b++) {
                all.meet(a, b);
            }
        }
        Checks.due("all", 256 - 9, all.parties(0));
        Checks.due("all", 255, all.parties(1));
        int[] bad = {2, -1, MIN, MAX};
        for (int what : bad) {
            Checks.due("parties(" + what + ")", LeastKnown.BAD, all.parties(what));
        }
    }

    private static void nothingChanges() {
        LeastKnown x = Checks.told(Checks.people(6) + "knows 0 1;mutual 2 3;calls 4 2;calls 0 3;forgets 3;law never;");
        x.go(2);
        String before = Checks.knowledge(x) + state(x);
        for (int p = 0; p < 6; p++) {
            x.reigns(p * 8);
            x.ring();
            x.brings(p, p & 1, -1);
            x.days(1 + p % 3, p, p & 1, 0);
            x.asks(p, p);
            x.party(p * 11);
            x.parties(p & 1);
        }
        String behind = Checks.knowledge(x) + state(x);
        Checks.due("nothing is changed: " + before + " -> " + behind, 1, before.equals(behind) ? 1 : 0);
        Checks.due("foretold alike", x.reigns(0), x.go(1));
    }

    private static String state(LeastKnown x) {
        StringBuilder all = new StringBuilder();
        for (int what = 0; what < 3; what++) {
            all.append(' ').append(x.now(what)).append(' ').append(x.law(what)).append(' ').append(x.count(what));
        }
        for (int a = 0; a < x.count(0); a++) {
            all.append(' ').append(x.person(a, 3));
            for (int b = 0; b < x.count(0); b++) {
                all.append(' ').append(x.seen(a, b));
            }
        }
        return all.append(' ').append(x.trace()).toString();
    }
}
