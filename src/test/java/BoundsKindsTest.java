/** Promises 24 to 28 and the fourth part of Terms: each sentence that names a bound or a refusal. */
public final class BoundsKindsTest {
    private static final int BAD = LeastKnown.BAD, STATE = LeastKnown.STATE, NO = LeastKnown.NO, NONE = LeastKnown.NONE;
    private static final int MIN = Integer.MIN_VALUE, MAX = Integer.MAX_VALUE;
    private static final int[] NOBODY = {4, 5, 8, 9, 64, 256, 65536, -1, -4, 1 << 30, MIN, MAX};
    private static final int[] NO_IMAGE = {-1, 2, 3, 256, 65536, MIN, MAX};
    private static final int[] TRACES = {1, 11, 101, 1101, 10011, 100001};

    public static void main(String[] args) {
        Checks.sentence("Terms: KINDS 0 .. 5", BoundsKindsTest::kinds);
        Checks.sentence("Terms: THE TRACE, 0 at first; each body once", BoundsKindsTest::traceOfEach);
        Checks.sentence("24 rate: a RATE may be below 0", BoundsKindsTest::rateBelowZero);
        Checks.sentence("24 rate: the greatest COUNT, the last YEAR", BoundsKindsTest::rateGreatest);
        Checks.sentence("24 rate: NO: BAD (KIND)", BoundsKindsTest::rateNoKind);
        Checks.sentence("24 rate: NO: BAD (no such one)", BoundsKindsTest::rateNobody);
        Checks.sentence("25 keep: IMAGES 0, 1: the YEAR", BoundsKindsTest::keepYears);
        Checks.sentence("25 keep: IMAGES 0, 1 are two", BoundsKindsTest::keepTwo);
        Checks.sentence("25 keep: another time over it", BoundsKindsTest::keepOver);
        Checks.sentence("25 keep: nothing else", BoundsKindsTest::keepAlone);
        Checks.sentence("25 keep: BAD", BoundsKindsTest::keepBad);
        Checks.sentence("26 back: all of that becomes as an IMAGE has it: the YEAR", BoundsKindsTest::backAll);
        Checks.sentence("26 back: LAW, THE TEXT, THE TRACE stay", BoundsKindsTest::backAlone);
        Checks.sentence("26 back: from YEAR 99, to YEAR 99", BoundsKindsTest::backLastYear);
        Checks.sentence("26 back: BAD", BoundsKindsTest::backBad);
        Checks.sentence("26 back: STATE: none was kept", BoundsKindsTest::backState);
        Checks.sentence("26 back: the first of these: BAD, STATE", BoundsKindsTest::backBadAheadOfState);
        Checks.sentence("25, 26 no PEOPLE", BoundsKindsTest::imagesOfNoPeople);
        Checks.sentence("27 count: 0 PEOPLE (0 .. 8)", BoundsKindsTest::countPeople);
        Checks.sentence("27 count: 1 pairs (both ways: two)", BoundsKindsTest::countPairs);
        Checks.sentence("27 count: 2 HABITS", BoundsKindsTest::countHabits);
        Checks.sentence("27 count: 3 bytes of THE TEXT", BoundsKindsTest::countBytes);
        Checks.sentence("27 count: BAD", BoundsKindsTest::countBad);
        Checks.sentence("28 trace: as often as rate() asks that body", BoundsKindsTest::traceAdds);
        Checks.sentence("28 trace: nothing else adds to it", BoundsKindsTest::traceAlone);
        Checks.end("BoundsKindsTest");
    }

    // ---- 24

    private static void kinds() {
        // 2: COUNT 3, KNOWS 1, reigned twice; YEAR 2
        LeastKnown x = Checks.told(Checks.people(4) + "knows 0 2;knows 1 2;knows 3 2;knows 2 1;law just 3;");
        x.go(2);
        int[] due = {3, 3 - 1, 3 + 2, 2 * (3 + 2), 3 - 1 + 2, 3 - 2};
        for (int kind = 0; kind < 6; kind++) {
            Checks.due("rate(" + kind + ", 2)", due[kind], x.rate(kind, 2));
        }
    }

    private static void traceOfEach() {
        Checks.due("trace()", 0, new LeastKnown().trace());
        for (int kind = 0; kind < 6; kind++) {
            LeastKnown x = Checks.told(Checks.people(2));
            Checks.due("trace() ahead", 0, x.trace());
            x.rate(kind, 1);
            Checks.due("trace() behind rate(" + kind + ", 1)", TRACES[kind], x.trace());
            x.rate(kind, 0);
            Checks.due("trace() behind two", 2 * TRACES[kind], x.trace());
        }
    }

    private static void rateBelowZero() {
        LeastKnown x = Towns.friends(8);
        x.moves(7);
        x.moves(0);
        Checks.due("SHY, COUNT 0, KNOWS 6", -6, x.rate(1, 7));
        Checks.due("HERMIT 7", 1, x.rate(4, 7));
        Checks.due("HERMIT 0", -6, x.rate(4, 0));
        LeastKnown late = Checks.told(Checks.people(2));
        late.go(99);
        late.moves(1);
        Checks.due("STRANGER, COUNT 0, YEAR 99", -99, late.rate(5, 1));
        LeastKnown seven = Checks.told(Checks.people(8)
            + "knows7 0;knows7 1;knows7 2;knows7 3;knows7 4;knows7 5;knows7 6;");
        Checks.due("SHY, COUNT 0, KNOWS 7", -7, seven.rate(1, 7));
        Checks.due("HERMIT 7", 0, seven.rate(4, 7));
    }

    private static void rateGreatest() {
        LeastKnown x = Checks.told(Checks.people(8) + "law just 7;");
        x.go(99);
        int[] due = {7, 7, 7 + 99, 2 * (7 + 99), 7, 7 - 99};
        for (int kind = 0; kind < 6; kind++) {
            Checks.due("rate(" + kind + ", 0)", due[kind], x.rate(kind, 0));
        }
        Checks.due("HERMIT 7, COUNT 0, KNOWS 1", 0 - 1 + 7, x.rate(4, 7));
        LeastKnown one = Checks.told("person;");
        for (int kind = 0; kind < 6; kind++) {
            Checks.due("rate(" + kind + ", 0) of one", 0, one.rate(kind, 0));
        }
    }

    private static void rateNoKind() {
        int[] none = {-1, 6, 7, 256, 65536, MIN, MAX};
        for (int kind : none) {
            Checks.refused("rate(" + kind + ", 0)", NO, Towns::used, x -> x.rate(kind, 0));
            Checks.refused("rate(" + kind + ", 3)", NO, Towns::used, x -> x.rate(kind, 3));
            Checks.refused("rate(" + kind + ", 4)", NO, Towns::used, x -> x.rate(kind, 4));
        }
    }

    private static void rateNobody() {
        for (int p : NOBODY) {
            for (int kind = 0; kind < 6; kind++) {
                int asked = kind;
                Checks.refused("rate(" + kind + ", " + p + ")", NO, Towns::used, x -> x.rate(asked, p));
            }
        }
        Checks.refused("rate(0, 8) of eight", NO, () -> Towns.friends(8), x -> x.rate(0, 8));
        Checks.refused("rate(0, 0) of no PEOPLE", NO, Towns::empty, x -> x.rate(0, 0));
    }

    // ---- 25

    private static void keepYears() {
        int[] years = {0, 1, 98, 99};
        for (int year : years) {
            LeastKnown x = Checks.told(Checks.people(3));
            if (year > 0) {
                x.go(year);
            }
            Checks.due("keep(0) in YEAR " + year, year, x.keep(0));
            Checks.due("keep(1) in YEAR " + year, year, x.keep(1));
            x.anew();
            Checks.due("back(0)", year, x.back(0));
            Checks.due("back(1)", year, x.back(1));
        }
    }

    private static void keepTwo() {
        LeastKnown x = Checks.told(Checks.people(3));
        x.keep(0);
        Checks.due("1 was not kept", STATE, x.back(1));
        x.go(1);
        x.keep(1);
        x.go(1);
        Checks.due("back(0)", 0, x.back(0));
        Checks.dueKnowledge("IMAGE 0", ".00 0.0 00.", x);
        Checks.due("back(1)", 1, x.back(1));
        Checks.dueKnowledge("IMAGE 1", ".00 1.0 10.", x);
        LeastKnown second = Checks.told(Checks.people(3));
        second.keep(1);
        Checks.due("0 was not kept", STATE, second.back(0));
        Checks.due("1 was", 0, second.back(1));
    }

    private static void keepOver() {
        LeastKnown x = Checks.told(Checks.people(2));
        x.keep(0);
        x.go(3);
        Checks.due("keep(0) again", 3, x.keep(0));
        x.go(2);
        Checks.due("back(0)", 3, x.back(0));
        Checks.due("back(0), once more", 3, x.back(0));
        x.meet(0, 1);
        x.moves(0);
        Checks.due("back(0) behind changes", 3, x.back(0));
        Checks.dueKnowledge("the IMAGE has not changed", ".1 1.", x);
        x.go(1);
        x.moves(1);
        x.back(0);
        Checks.due("SEEN as it was", 2, x.seen(1, 0));
    }

    private static void keepAlone() {
        LeastKnown x = Towns.used();
        x.keep(0);
        x.keep(1);
        Checks.dueSame("NOW behind keep()", Whole.now(Towns.used()), Whole.now(x));
    }

    private static void keepBad() {
        for (int image : NO_IMAGE) {
            Checks.refused("keep(" + image + ")", BAD, Towns::used, x -> x.keep(image));
            Checks.refused("keep(" + image + ")", BAD, LeastKnown::new, x -> x.keep(image));
        }
    }

    // ---- 26

    private static void backAll() {
        LeastKnown x = Checks.told(Checks.people(4) + "knows 0 1;calls 1 2;forgets 4;law never;");
        x.go(2);
        x.introduce(2, 3, 1);
        String then = Whole.now(x);
        int next = x.reigns(5);
        x.keep(1);
        x.go(7);
        x.moves(0);
        x.meet(0, 3);
        Checks.due("back(1)", 2, x.back(1));
        Checks.dueSame("KNOWS, SEEN, YEAR, reigned, last", then, Whole.now(x));
        Checks.due("reigns(5)", next, x.reigns(5));
        LeastKnown none = Checks.told(Checks.people(2));
        none.keep(0);
        none.go(9);
        none.back(0);
        Checks.due("nobody had reigned", NONE, none.now(1));
        Checks.due("nobody had reigned", 0, none.person(0, 3) + none.person(1, 3));
        LeastKnown never = Checks.told(Checks.people(3) + "law never;");
        never.go(1);
        never.keep(1);
        never.go(1);
        Checks.due("two have reigned", 2, never.chosen());
        never.back(1);
        Checks.due("one has", 1, never.chosen());
        never.anew();
        Checks.due("nobody has", 0, never.chosen());
        never.back(1);
        Checks.due("one has again", 1, never.chosen());
    }

    private static void backAlone() {
        LeastKnown x = Checks.told(Checks.people(2) + "calls 0 1;forgets 5;law just 1;");
        x.keep(0);
        x.rules(2, 6);
        x.rules(1, 0);
        x.rate(3, 0);
        Checks.type(x, "person;");
        x.back(0);
        Checks.due("LAW", 1, x.law(0));
        Checks.due("j", 6, x.law(1));
        Checks.due("FORGETS", 5, x.law(2));
        Checks.due("HABITS", 1, x.count(2));
        Checks.due("bytes", 7, x.count(3));
        Checks.due("trace()", 1101, x.trace());
        Checks.due("town()", 1, x.town());
    }

    private static void backLastYear() {
        LeastKnown x = Checks.told("person;");
        x.keep(0);
        x.go(99);
        x.keep(1);
        Checks.due("go(1)", STATE, x.go(1));
        Checks.due("back(0)", 0, x.back(0));
        Checks.due("go(1)", 0, x.go(1));
        Checks.due("reigned", 1, x.person(0, 3));
        Checks.due("back(1)", 99, x.back(1));
        Checks.due("go(1)", STATE, x.go(1));
        Checks.due("reigned", 99, x.person(0, 3));
    }

    private static void backBad() {
        for (int image : NO_IMAGE) {
            Checks.refused("back(" + image + ")", BAD, Towns::used, x -> x.back(image));
        }
    }

    private static void backState() {
        for (int image = 0; image < 2; image++) {
            int none = image;
            Checks.refused("back(" + image + ")", STATE, LeastKnown::new, x -> x.back(none));
            Checks.refused("back(" + image + ")", STATE, () -> Checks.told(Checks.people(3)), x -> x.back(none));
            LeastKnown other = Checks.told(Checks.people(3));
            other.keep(1 - image);
            Checks.due("back(" + image + "), the other one was kept", STATE, other.back(image));
            other.town();
            Checks.due("back(" + (1 - image) + ") behind town()", STATE, other.back(1 - image));
        }
        LeastKnown refused = Checks.told("person;");
        refused.keep(2);
        refused.keep(-1);
        Checks.due("back(0), keep() was refused", STATE, refused.back(0));
        Checks.due("back(1), keep() was refused", STATE, refused.back(1));
    }

    private static void backBadAheadOfState() {
        for (int image : NO_IMAGE) {
            Checks.refused("back(" + image + ")", BAD, LeastKnown::new, x -> x.back(image));
            Checks.refused("back(" + image + ")", BAD, () -> Checks.told("person;"), x -> x.back(image));
        }
    }

    private static void imagesOfNoPeople() {
        LeastKnown x = new LeastKnown();
        Checks.due("back(0)", STATE, x.back(0));
        Checks.due("keep(0)", 0, x.keep(0));
        Checks.due("back(0)", 0, x.back(0));
        Checks.due("back(1)", STATE, x.back(1));
    }

    // ---- 27

    private static void countPeople() {
        for (int n = 0; n <= 8; n++) {
            Checks.due("count(0)", n, Checks.told(Checks.people(n)).count(0));
        }
    }

    private static void countPairs() {
        Checks.due("one way", 1, Checks.told(Checks.people(2) + "knows 0 1;").count(1));
        Checks.due("both ways", 2, Checks.told(Checks.people(2) + "mutual 0 1;").count(1));
        for (int n = 0; n <= 8; n++) {
            Checks.due("all of " + n, n * (n - 1), Towns.friends(n).count(1));
            Checks.due("none of " + n, 0, Checks.told(Checks.people(n)).count(1));
        }
        LeastKnown x = Towns.friends(8);
        x.moves(7);
        Checks.due("one moved", 49, x.count(1));
    }

    private static void countHabits() {
        StringBuilder text = new StringBuilder(Checks.people(8));
        for (int a = 0; a < 8; a++) {
            Checks.due("count(2)", a, Checks.told(text.toString()).count(2));
            text.append("calls ").append(a).append(' ').append(7 - a).append(';');
        }
        Checks.due("count(2) of eight", 8, Checks.told(text.toString()).count(2));
    }

    private static void countBytes() {
        LeastKnown x = new LeastKnown();
        for (int i = 0; i <= 50; i++) {
            Checks.due("count(3)", 8 * i, x.count(3));
            x.type(0x2020202020202020L, 8);
        }
        Checks.due("count(3) behind FULL", 400, x.count(3));
        x.clear();
        Checks.due("count(3) behind clear()", 0, x.count(3));
    }

    private static void countBad() {
        int[] bad = {-1, 4, 5, 256, MIN, MAX};
        for (int what : bad) {
            Checks.refused("count(" + what + ")", BAD, Towns::used, x -> x.count(what));
            Checks.refused("count(" + what + ")", BAD, LeastKnown::new, x -> x.count(what));
        }
    }

    // ---- 28

    private static void traceAdds() {
        LeastKnown x = Checks.told(Checks.people(8));
        long all = 0;
        for (int i = 0; i < 240; i++) {
            x.rate(i % 6, i % 8);
            all += TRACES[i % 6];
            Checks.due("trace()", all, x.trace());
        }
        LeastKnown most = Checks.told("person;");
        for (int i = 0; i < 500; i++) {
            most.rate(5, 0);
        }
        Checks.due("500 times STRANGER", 500L * 100001, most.trace());
    }

    private static void traceAlone() {
        LeastKnown x = Checks.told(Checks.people(3) + "calls 0 1;");
        x.rate(4, 2);
        x.person(0, 0);
        x.chosen();
        x.meet(0, 1);
        x.introduce(0, 2, 1);
        x.moves(2);
        x.go(5);
        x.reigns(9);
        x.ring();
        x.brings(0, 1, -1);
        x.days(2, 0, 1, 0);
        x.asks(0, 1);
        x.party(3);
        x.parties(0);
        x.keep(0);
        x.rate(6, 0);
        x.rate(0, 3);
        x.back(0);
        x.anew();
        x.clear();
        x.town();
        Checks.due("trace()", 10011, x.trace());
    }
}
