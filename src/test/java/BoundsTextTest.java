import java.util.function.Supplier;

/** Promises 1 to 4 and the first part of Terms: each sentence that names a bound or a refusal. */
public final class BoundsTextTest {
    private static final int BAD = LeastKnown.BAD, STATE = LeastKnown.STATE, FULL = LeastKnown.FULL;
    private static final int MIN = Integer.MIN_VALUE, MAX = Integer.MAX_VALUE;
    private static final String[] WORDS = {"person", "knows", "mutual", "calls", "forgets", "law", "least", "second",
        "just", "never"};

    public static void main(String[] args) {
        Checks.sentence("1 A new object: as told; no PEOPLE", BoundsTextTest::newObject);
        Checks.sentence("1 no PEOPLE: what is asked of them is refused", BoundsTextTest::noPeople);
        Checks.sentence("1 each object has its own", BoundsTextTest::twoObjects);
        Checks.sentence("2 type: n 1 .. 8: how many THE TEXT has", BoundsTextTest::typeTakes);
        Checks.sentence("2 type: BAD", BoundsTextTest::typeBad);
        Checks.sentence("2 type: the lowest n bytes of v", BoundsTextTest::typeLowest);
        Checks.sentence("2 type: the highest of them first", BoundsTextTest::typeHighestFirst);
        Checks.sentence("2 type: FULL; 400 bytes at most", BoundsTextTest::typeFull);
        Checks.sentence("2 type: FULL leaves nothing of the row", BoundsTextTest::typeFullLeavesNothing);
        Checks.sentence("2 type: the first of these: BAD, FULL", BoundsTextTest::typeBadAheadOfFull);
        Checks.sentence("3 clear: how many bytes it had", BoundsTextTest::clearHad);
        Checks.sentence("3 clear: THE TEXT is empty", BoundsTextTest::clearEmpties);
        Checks.sentence("3 clear: THE TEXT alone", BoundsTextTest::clearAlone);
        Checks.sentence("4 town: how many ITEMS (none, too)", BoundsTextTest::townItems);
        Checks.sentence("4 town: THE TEXT is empty then", BoundsTextTest::townEmpties);
        Checks.sentence("4 town: -10 less FAULT, first place to last", BoundsTextTest::townFaultPlaces);
        Checks.sentence("4 town: a FAULT: nothing changes", BoundsTextTest::townFaultChangesNothing);
        Checks.sentence("4 town: a FAULT: THE TEXT stays, too", BoundsTextTest::townFaultTextStays);
        Checks.sentence("4 town: THE TEXT tells all", BoundsTextTest::townTellsAll);
        Checks.sentence("4 town: nothing is left of texts ahead", BoundsTextTest::townLeavesNothing);
        Checks.sentence("4 read anew: IMAGES are gone, THE TRACE goes on", BoundsTextTest::townImages);
        Checks.sentence("Terms: PEOPLE (8 at most)", BoundsTextTest::eightPeople);
        Checks.sentence("Terms: one KNOWS another one or not; HABITS none at first", BoundsTextTest::noneAtFirst);
        Checks.sentence("Terms: FORGETS 0 .. 9", BoundsTextTest::forgetsBounds);
        Checks.sentence("Terms: LAW 0 .. 3, j 0 .. 7", BoundsTextTest::lawBounds);
        Checks.sentence("Terms: blanks (32), any number, ahead of, between, behind", BoundsTextTest::blanksAnywhere);
        Checks.sentence("Terms: blanks needed only between rows of letters, NUMBERS", BoundsTextTest::blanksNeeded);
        Checks.sentence("Terms: ITEMS each ended by ;", BoundsTextTest::itemsEnded);
        Checks.sentence("Terms: mutual A B (both ways)", BoundsTextTest::mutualBothWays);
        Checks.sentence("Terms: A, B were told", BoundsTextTest::pairWasTold);
        Checks.sentence("Terms: A, B are unlike", BoundsTextTest::pairIsUnlike);
        Checks.sentence("Terms: forgets, law once each at most", BoundsTextTest::onceEach);
        Checks.sentence("Terms: calls once for each A", BoundsTextTest::callsOnce);
        Checks.sentence("Terms: what is told again that may", BoundsTextTest::againThatMay);
        Checks.sentence("FAULT: a TOKEN that can't stand there", BoundsTextTest::tokensInEachPlace);
        Checks.sentence("FAULT: of a byte that begins none", BoundsTextTest::bytesThatBeginNone);
        Checks.sentence("FAULT: a byte behind a word, behind a NUMBER", BoundsTextTest::bytesBehind);
        Checks.sentence("FAULT: a word that is none of these", BoundsTextTest::wordsThatAreNone);
        Checks.sentence("FAULT: a NUMBER above 99 or with a 0 ahead", BoundsTextTest::numbersThatAreNone);
        Checks.sentence("FAULT: the text's length, if it ends too early", BoundsTextTest::endsTooEarly);
        Checks.sentence("FAULT: the first one", BoundsTextTest::firstFault);
        Checks.end("BoundsTextTest");
    }

    // ---- 1

    private static void newObject() {
        for (int what = 0; what < 4; what++) {
            Checks.due("count(" + what + ")", 0, new LeastKnown().count(what));
        }
        int[] law = {0, 2, 0};
        int[] now = {0, LeastKnown.NONE, 0};
        for (int what = 0; what < 3; what++) {
            Checks.due("law(" + what + ")", law[what], new LeastKnown().law(what));
            Checks.due("now(" + what + ")", now[what], new LeastKnown().now(what));
        }
        Checks.due("trace()", 0, new LeastKnown().trace());
        Checks.due("back(0)", STATE, new LeastKnown().back(0));
        Checks.due("back(1)", STATE, new LeastKnown().back(1));
        Checks.due("clear()", 0, new LeastKnown().clear());
        Checks.due("town()", 0, new LeastKnown().town());
        Checks.due("anew()", 0, new LeastKnown().anew());
        Checks.due("the first call may be type()", 1, new LeastKnown().type(59, 1));
    }

    private static void noPeople() {
        Supplier<LeastKnown> none = Towns::empty;
        Checks.refused("knows(0, 1)", BAD, none, x -> x.knows(0, 1));
        Checks.refused("seen(0, 1)", LeastKnown.NO, none, x -> x.seen(0, 1));
        Checks.refused("person(0, 0)", BAD, none, x -> x.person(0, 0));
        Checks.refused("chosen()", STATE, none, x -> x.chosen());
        Checks.refused("meet(0, 1)", BAD, none, x -> x.meet(0, 1));
        Checks.refused("introduce(0, 1, 2)", BAD, none, x -> x.introduce(0, 1, 2));
        Checks.refused("moves(0)", BAD, none, x -> x.moves(0));
        Checks.refused("go(1)", STATE, none, x -> x.go(1));
        Checks.refused("reigns(0)", STATE, none, x -> x.reigns(0));
        Checks.refused("ring()", STATE, none, x -> x.ring());
        Checks.refused("brings(0, 1, -1)", BAD, none, x -> x.brings(0, 1, -1));
        Checks.refused("days(1, 0, 1, 0)", BAD, none, x -> x.days(1, 0, 1, 0));
        Checks.refused("asks(0, 0)", BAD, none, x -> x.asks(0, 0));
        Checks.refused("rate(0, 0)", LeastKnown.NO, none, x -> x.rate(0, 0));
    }

    private static void twoObjects() {
        LeastKnown x = new LeastKnown();
        String before = Whole.of(LeastKnown::new);
        Checks.type(x, Checks.people(8) + "calls 0 1;law never;forgets 9;");
        x.town();
        x.go(3);
        x.keep(0);
        x.rate(0, 0);
        Checks.type(x, "law");
        Checks.dueSame("another one", before, Whole.of(LeastKnown::new));
    }

    // ---- 2

    private static void typeTakes() {
        for (int n = 1; n <= 8; n++) {
            LeastKnown x = new LeastKnown();
            Checks.due("type(0, " + n + ")", n, x.type(0, n));
            Checks.due("count(3)", n, x.count(3));
            Checks.due("type(-1, " + n + ") behind it", 2 * n, x.type(-1L, n));
            Checks.due("count(3)", 2 * n, x.count(3));
        }
        Checks.due("type(MAX, 8)", 8, new LeastKnown().type(Long.MAX_VALUE, 8));
        Checks.due("type(MIN, 1)", 1, new LeastKnown().type(Long.MIN_VALUE, 1));
    }

    private static void typeBad() {
        int[] bad = {0, 9, -1, -8, 10, 16, 256 + 1, 65536 + 1, MIN, MIN + 1, MAX, MAX - 7};
        for (int n : bad) {
            Checks.refused("type(59, " + n + ")", BAD, Towns::used, x -> x.type(59, n));
            Checks.refused("type(59, " + n + ")", BAD, LeastKnown::new, x -> x.type(59, n));
        }
    }

    private static void typeLowest() {
        String text = " person;";
        for (int n = 1; n <= 7; n++) {
            LeastKnown x = new LeastKnown();
            long ahead = Checks.packed("?".repeat(8 - n)) << 8 * n;
            Checks.type(x, text.substring(0, 8 - n));
            x.type(ahead | Checks.packed(text.substring(8 - n)), n);
            Checks.due("town() of " + n + " bytes and others above them", 1, x.town());
        }
        LeastKnown x = new LeastKnown();
        x.type(-1L << 8 | ' ', 1);
        Checks.due("town(): a blank below bits of a sign", 0, x.town());
    }

    private static void typeHighestFirst() {
        LeastKnown x = new LeastKnown();
        x.type(0x706572736f6e3b20L, 8);
        Checks.due("town() of \"person; \"", 1, x.town());
        x.type(0x203b6e6f73726570L, 8);
        Checks.due("town() of it from behind", -11, x.town());
        x.clear();
        x.type(0x203b, 2);
        Checks.due("town() of \" ;\"", -11, x.town());
        x.clear();
        x.type(0xff00000000000000L, 8);
        Checks.due("town(): 255 ahead", -10, x.town());
        x.clear();
        x.type(0x20202020202020ffL, 8);
        Checks.due("town(): 255 behind", -17, x.town());
        x.clear();
        x.type(0x2020202080202020L, 8);
        Checks.due("town(): 128 in the middle", -14, x.town());
    }

    private static LeastKnown withBytes(int bytes) {
        LeastKnown x = new LeastKnown();
        for (int left = bytes; left > 0; left -= 8) {
            x.type(0x2020202020202020L, Math.min(left, 8));
        }
        return x;
    }

    private static void typeFull() {
        for (int n = 1; n <= 8; n++) {
            int bytes = n;
            Checks.due("type(.., " + n + ") at " + (400 - n), 400, withBytes(400 - n).type(-1L, n));
            Checks.refused("type(.., " + n + ") at " + (401 - n), FULL, () -> withBytes(401 - bytes),
                x -> x.type(-1L, bytes));
            Checks.refused("type(.., " + n + ") at 400", FULL, Towns::withFullText, x -> x.type(59, bytes));
        }
        Checks.due("type(.., 1) at 398", 399, withBytes(398).type(-1L, 1));
    }

    private static void typeFullLeavesNothing() {
        LeastKnown x = withBytes(393);
        Checks.due("type(\"????????\", 8)", FULL, x.type(Checks.packed("????????"), 8));
        Checks.due("type(\"person;\", 7)", 400, x.type(Checks.packed("person;"), 7));
        Checks.due("type(\"?\", 1)", FULL, x.type('?', 1));
        Checks.due("town()", 1, x.town());
        Checks.due("type() then", 8, x.type(0, 8));
    }

    private static void typeBadAheadOfFull() {
        int[] bad = {0, 9, -1, MIN, MAX};
        for (int n : bad) {
            Checks.refused("type(59, " + n + ") at 400", BAD, Towns::withFullText, x -> x.type(59, n));
            Checks.refused("type(59, " + n + ") at 399", BAD, () -> withBytes(399), x -> x.type(59, n));
        }
    }

    // ---- 3

    private static void clearHad() {
        int[] sizes = {0, 1, 7, 8, 399, 400};
        for (int size : sizes) {
            LeastKnown x = withBytes(size);
            Checks.due("clear() of " + size, size, x.clear());
            Checks.due("clear() again", 0, x.clear());
        }
        LeastKnown x = withBytes(400);
        x.type(0, 1);
        Checks.due("clear() behind FULL", 400, x.clear());
    }

    private static void clearEmpties() {
        LeastKnown x = withBytes(400);
        x.clear();
        Checks.due("count(3)", 0, x.count(3));
        Checks.due("type() begins anew", 1, x.type(';', 1));
        Checks.due("town(): at the first place", -10, x.town());
        x.clear();
        for (int i = 1; i <= 50; i++) {
            Checks.due("type() up to 400 again", 8 * i, x.type(0, 8));
        }
        Checks.due("FULL again", FULL, x.type(0, 1));
        LeastKnown behind = new LeastKnown();
        Checks.type(behind, "person;person;");
        behind.clear();
        Checks.type(behind, "person");
        Checks.due("town(): the ; that was there is gone", -16, behind.town());
    }

    private static void clearAlone() {
        String text = "person;person;knows 1 0;forgets 2;law just 1;";
        Checks.dueSame("all behind clear()", Whole.of(() -> withText(Towns.used(), text)), Whole.of(Towns::used));
        LeastKnown x = Towns.used();
        x.clear();
        Checks.due("PEOPLE", 4, x.count(0));
        Checks.due("YEAR", 3, x.now(0));
    }

    // ---- 4

    private static void dueTown(String text, int want) {
        LeastKnown x = new LeastKnown();
        Checks.type(x, text);
        Checks.due("town() of \"" + text + "\"", want, x.town());
        Checks.due("count(3) behind \"" + text + "\"", want < 0 ? text.length() : 0, x.count(3));
    }

    /** A text whose FAULT is at a place. */
    private static void dueFault(String text, int place) {
        dueTown(text, -10 - place);
    }

    private static void townItems() {
        dueTown("", 0);
        dueTown(" ", 0);
        dueTown(" ".repeat(400), 0);
        dueTown("person;", 1);
        dueTown("law least;", 1);
        dueTown("forgets 0;", 1);
        dueTown("forgets 0;law least;", 2);
        dueTown(Checks.people(8), 8);
        // 14 bytes and 42 times 9, and 8 blanks
        dueTown(Checks.people(2) + "knows0 1;".repeat(42) + " ".repeat(8), 44);
    }

    private static void townEmpties() {
        LeastKnown x = new LeastKnown();
        Checks.type(x, "person;  ");
        Checks.due("town()", 1, x.town());
        Checks.due("count(3)", 0, x.count(3));
        Checks.due("clear()", 0, x.clear());
        Checks.due("PEOPLE", 1, x.count(0));
        Checks.due("town() of the empty text", 0, x.town());
        Checks.due("no PEOPLE", 0, x.count(0));
        LeastKnown full = Towns.withFullText();
        Checks.due("town() of 400 bytes", 1, full.town());
        Checks.due("type()", 8, full.type(0, 8));
    }

    private static void townFaultPlaces() {
        dueFault(";", 0);
        dueFault(" ;", 1);
        dueFault(" ".repeat(399) + ";", 399);
        dueFault(" ".repeat(398) + "p", 398);
        dueFault(" ".repeat(398) + "1 ", 398);
        dueFault("person" + " ".repeat(394), 400);
        dueFault("person" + " ".repeat(393), 399);
        dueFault("p".repeat(400), 0);
        dueFault("person;" + "9".repeat(393), 7);
    }

    private static void townFaultChangesNothing() {
        Checks.refused("town()", -10 - 76, Towns::withFault, x -> x.town());
        Checks.refused("town()", -16, () -> withText(Towns.used(), "person"), x -> x.town());
        Checks.refused("town()", -10 - 44, () -> withText(Towns.used(), "law never;forgets 1;person;person;calls 0 1;!;"),
            x -> x.town());
        Checks.refused("town()", -10, () -> withText(Towns.empty(), "?"), x -> x.town());
    }

    private static LeastKnown withText(LeastKnown x, String text) {
        x.clear();
        Checks.type(x, text);
        return x;
    }

    private static void townFaultTextStays() {
        LeastKnown x = new LeastKnown();
        String[] parts = {"per", "son", " ", ";", "knows", "s0", "0 1;"};
        int[] due = {-10, -16, -17, 1};
        for (int i = 0; i < due.length; i++) {
            Checks.type(x, parts[i]);
            Checks.due("town() with \"" + parts[i] + "\" behind", due[i], x.town());
        }
        Checks.type(x, "person");
        Checks.due("town()", -16, x.town());
        Checks.due("type() goes on", 7, x.type(';', 1));
        Checks.due("town()", 1, x.town());
        LeastKnown full = withText(new LeastKnown(), " ".repeat(400 - 6) + "person");
        Checks.due("town()", -410, full.town());
        Checks.due("FULL still", FULL, full.type(';', 1));
    }

    private static void townTellsAll() {
        LeastKnown x = Towns.used();
        x.clear();
        Checks.type(x, Checks.people(3) + "knows 2 0;");
        Checks.due("town()", 4, x.town());
        LeastKnown fresh = Checks.told(Checks.people(3) + "knows 2 0;");
        fresh.rate(3, 0);
        Checks.due("the same TRACE", fresh.trace(), x.trace());
        Checks.dueSame("NOW, LAW, HABITS", Whole.now(fresh), Whole.now(x));
        x.anew();
        Checks.dueSame("as at first", Whole.now(fresh), Whole.now(x));
        x.go(20);
        fresh.go(20);
        Checks.dueSame("what comes of it", Whole.now(fresh), Whole.now(x));
    }

    private static void townLeavesNothing() {
        String all = Checks.people(8) + "knows 0 1;mutual 2 3;mutual 7 6;calls 0 1;calls 7 0;forgets 9;law just 7;";
        String[] texts = {Checks.people(8), Checks.people(2), "", "person;person;law never;", "person;person;forgets 3;"};
        for (String text : texts) {
            String fresh = Whole.of(() -> Checks.told(text));
            for (int ahead = 1; ahead <= 3; ahead++) {
                int times = ahead;
                Checks.dueSame(text + " behind " + ahead, fresh, Whole.of(() -> behind(all, times, text)));
                Checks.dueSame(text + " behind " + ahead + " FAULTS", fresh,
                    Whole.of(() -> behind(all + "?", times, text)));
            }
        }
    }

    /** An object that a text has told behind others, which may have a FAULT. */
    private static LeastKnown behind(String ahead, int times, String text) {
        LeastKnown x = new LeastKnown();
        for (int i = 0; i < times; i++) {
            withText(x, ahead).town();
        }
        withText(x, text).town();
        return x;
    }

    private static void townImages() {
        LeastKnown x = Towns.used();
        long trace = x.trace();
        Checks.due("town()", 5, x.town());
        Checks.due("back(0)", STATE, x.back(0));
        Checks.due("back(1)", STATE, x.back(1));
        Checks.due("trace()", trace, x.trace());
        x.keep(1);
        Checks.due("town() of the empty text", 0, x.town());
        Checks.due("back(1)", STATE, x.back(1));
        Checks.due("trace()", trace, x.trace());
        Checks.due("anew()", 0, x.anew());
        Checks.due("trace()", trace, x.trace());
    }

    // ---- Terms: what a text may tell

    private static void eightPeople() {
        for (int n = 0; n <= 8; n++) {
            LeastKnown x = Checks.told(Checks.people(n));
            Checks.due("PEOPLE", n, x.count(0));
            Checks.due("person(" + (n - 1) + ", 0)", n == 0 ? BAD : 0, x.person(n - 1, 0));
            Checks.due("person(" + n + ", 0)", BAD, x.person(n, 0));
        }
        dueFault(Checks.people(9), 56);
        dueFault(Checks.people(8) + "knows 0 1;  person;", 68);
        dueFault(Checks.people(8) + "person", 56);
        Checks.refused("town() of a ninth", -10 - 56, () -> withText(Towns.used(), Checks.people(9)), x -> x.town());
    }

    private static void noneAtFirst() {
        LeastKnown x = Checks.told(Checks.people(8));
        Checks.due("pairs", 0, x.count(1));
        Checks.due("HABITS", 0, x.count(2));
        for (int p = 0; p < 8; p++) {
            Checks.due("CALLS", LeastKnown.NONE, x.person(p, 2));
            Checks.due("KNOWS", 0, x.person(p, 1));
        }
        Checks.due("FORGETS", 0, x.law(2));
        Checks.due("LAW", 0, x.law(0));
        Checks.due("j", 2, x.law(1));
    }

    private static void forgetsBounds() {
        for (int years = 0; years <= 9; years++) {
            Checks.due("FORGETS", years, Checks.told("forgets " + years + ";").law(2));
        }
        for (int years = 10; years <= 99; years++) {
            dueFault("forgets " + years + ";", 8);
        }
        dueFault("forgets 100;", 8);
        dueFault("forgets ;", 8);
        dueFault("forgets -0;", 8);
    }

    private static void lawBounds() {
        String[] laws = {"least", "second", "just 0", "never"};
        for (int law = 0; law < 4; law++) {
            Checks.due("law " + laws[law], law, Checks.told("law " + laws[law] + ";").law(0));
        }
        for (int j = 0; j <= 7; j++) {
            Checks.due("law just " + j, j, Checks.told("law just " + j + ";").law(1));
        }
        for (int j = 8; j <= 99; j++) {
            dueFault("law just " + j + ";", 9);
        }
        dueFault("law just 100;", 9);
        dueFault("law just ;", 9);
        dueFault("law least 0;", 10);
        dueFault("law second 1;", 11);
        dueFault("law never 0;", 10);
        Checks.due("j of a LAW that has none", 2, Checks.told("law never;").law(1));
    }

    private static void blanksAnywhere() {
        String[] tokens = {"person", ";", "person", ";", "calls", "0", "1", ";", "law", "just", "7", ";"};
        for (int many = 1; many <= 20; many += 19) {
            String blanks = " ".repeat(many);
            dueTown(blanks + String.join(blanks, tokens) + blanks, 4);
            dueTown(String.join(blanks, tokens), 4);
        }
        dueTown("person;person;calls0 1;law just7;", 4);
        int[] others = {0, 9, 10, 11, 12, 13, 31, 33, 127, 133, 160};
        for (int other : others) {
            dueFault("person;" + (char) other + "person;", 7);
            dueFault((char) other + "person;", 0);
            dueFault("person" + (char) other + ";", 6);
        }
    }

    private static void blanksNeeded() {
        dueFault("lawleast;", 0);
        dueFault("law justjust;", 4);
        dueFault("personperson;", 0);
        dueFault("person;person;knows 01;", 20);
        dueFault("person;person;knows 10;", 20);
        dueTown("person;person;knows1 0;", 3);
        dueTown("forgets9;law never;person;", 3);
        dueFault("law2;", 3);
        dueFault("forgets 1law;", 9);
        dueFault("1law;", 0);
    }

    private static void itemsEnded() {
        dueFault(";", 0);
        dueFault("person;;", 7);
        dueFault(";person;", 0);
        dueFault("person person;", 7);
        dueFault("person law never;", 7);
        dueFault("law never law never;", 10);
        dueFault("forgets 1 forgets 1;", 10);
        dueFault("person;person;knows 0 1 knows 1 0;", 24);
        dueFault("person;person;mutual 0 1 0;", 25);
        dueFault("person;person;calls 0 1 person;", 24);
        dueFault("person,", 6);
        dueFault("person:", 6);
    }

    private static void mutualBothWays() {
        Checks.dueKnowledge("knows 0 1", ".1 0.", Checks.told(Checks.people(2) + "knows 0 1;"));
        Checks.dueKnowledge("knows 1 0", ".0 1.", Checks.told(Checks.people(2) + "knows 1 0;"));
        Checks.dueKnowledge("mutual 1 0", ".1 1.", Checks.told(Checks.people(2) + "mutual 1 0;"));
        LeastKnown calls = Checks.told(Checks.people(2) + "calls 1 0;");
        Checks.dueKnowledge("calls 1 0", ".0 0.", calls);
        Checks.due("1 CALLS", 0, calls.person(1, 2));
        Checks.due("0 does not", LeastKnown.NONE, calls.person(0, 2));
    }

    private static void pairWasTold() {
        String[] words = {"knows", "mutual", "calls"};
        for (String word : words) {
            int a = 7 * 8 + word.length() + 1;
            dueTown(Checks.people(8) + word + " 7 0;" + word + " 0 7;", 10);
            dueFault(Checks.people(8) + word + " 8 0;", a);
            dueFault(Checks.people(8) + word + " 0 8;", a + 2);
            dueFault(Checks.people(8) + word + " 9 9;", a);
            dueFault(Checks.people(8) + word + " 7 99;", a + 2);
            dueFault(Checks.people(8) + word + " 99 7;", a);
            dueFault(word + " 0 1;", word.length() + 1);
            dueFault("person;" + word + " 0 1;", 7 + word.length() + 3);
            dueFault("person;" + word + " 1 0;", 7 + word.length() + 1);
            dueFault("person;" + word + " 1 0;person;", 7 + word.length() + 1);
            dueTown("person;person;" + word + " 1 0;person;" + word + " 2 1;", 5);
            dueFault("person;person;" + word + " 1 2;person;", 14 + word.length() + 3);
        }
    }

    private static void pairIsUnlike() {
        String[] words = {"knows", "mutual", "calls"};
        for (String word : words) {
            dueFault("person;" + word + " 0 0;", 7 + word.length() + 3);
            dueFault(Checks.people(8) + word + " 7 7;", 56 + word.length() + 3);
        }
    }

    private static void onceEach() {
        dueFault("law least;law least;", 10);
        dueFault("law never;person;  law second;", 19);
        dueFault("law just 1;law;", 11);
        dueFault("forgets 0;forgets 0;", 10);
        dueFault("forgets 9;law least;forgets 8;", 20);
        dueFault("forgets 9;person;forgets", 17);
        dueTown("law just 0;forgets 0;", 2);
        LeastKnown x = Checks.told("law just 1;forgets 3;");
        Checks.type(x, "law never;forgets 4;");
        Checks.due("town(): once in each text", 2, x.town());
        Checks.due("LAW", 3, x.law(0));
        Checks.due("FORGETS", 4, x.law(2));
        Checks.due("j", 2, x.law(1));
    }

    private static void callsOnce() {
        dueFault(Checks.people(3) + "calls 0 1;calls 0 1;", 37);
        dueFault(Checks.people(3) + "calls 0 1;calls 0 2;", 37);
        dueFault(Checks.people(3) + "calls 2 0;calls 0 1;calls 2 1;", 47);
        dueTown(Checks.people(3) + "calls 0 1;calls 1 0;calls 2 0;", 6);
        dueTown(Checks.people(8)
            + "calls 0 7;calls 1 7;calls 2 7;calls 3 7;calls 4 7;calls 5 7;calls 6 7;calls 7 0;", 16);
        LeastKnown x = withText(new LeastKnown(), Checks.people(2) + "calls 0 1;?");
        x.town();
        x = withText(x, Checks.people(2) + "calls 0 1;");
        Checks.due("town(): what a FAULT left is no HABIT", 3, x.town());
    }

    private static void againThatMay() {
        dueTown(Checks.people(2) + "knows 0 1;knows 0 1;", 4);
        dueTown(Checks.people(2) + "mutual 0 1;mutual 1 0;knows 1 0;", 5);
        LeastKnown x = Checks.told(Checks.people(2) + "knows 0 1;mutual 0 1;mutual 0 1;");
        Checks.due("COUNTS", 2, x.count(1));
    }

    // ---- FAULT

    /** Each begun ITEM, and which TOKENS may come next; each other one is the FAULT. */
    private static void tokensInEachPlace() {
        String head = Checks.people(2);
        dueNext(head, "person knows mutual calls forgets law");
        dueNext(head + "person", ";");
        String[] words = {"knows", "mutual", "calls"};
        for (String word : words) {
            dueNext(head + word, "0 1");
            dueNext(head + word + " 0", "1");
            dueNext(head + word + " 0 1", ";");
        }
        dueNext(head + "forgets", "0 1 2 7 8 9");
        dueNext(head + "forgets 9", ";");
        dueNext(head + "law", "least second just never");
        dueNext(head + "law just", "0 1 2 7");
        dueNext(head + "law just 0", ";");
        String[] laws = {"least", "second", "never"};
        for (String law : laws) {
            dueNext(head + "law " + law, ";");
        }
        dueNext(Checks.people(8), "knows mutual calls forgets law");
        dueNext(Checks.people(1) + "knows", "0");
        dueNext(Checks.people(1) + "knows 0", "");
        dueNext("calls", "");
        dueNext("law least;forgets 1;", "person knows mutual calls");
    }

    private static void dueNext(String begun, String may) {
        String all = String.join(" ", WORDS) + " ; 0 1 2 7 8 9 10 99 100 00 01 a zz ? Z";
        for (String next : all.split(" ")) {
            boolean stands = (" " + may + " ").contains(" " + next + " ");
            String text = begun + "  " + next;
            boolean whole = next.equals(";") && stands;
            LeastKnown x = withText(new LeastKnown(), text);
            int place = stands ? text.length() : begun.length() + 2;
            Checks.due("town() of \"" + text + "\"", whole ? items(begun) + 1 : -10 - place, x.town());
        }
    }

    private static int items(String text) {
        return text.length() - text.replace(";", "").length();
    }

    private static void bytesThatBeginNone() {
        for (int value = 0; value < 256; value++) {
            String sign = String.valueOf((char) value);
            dueTown(sign, value == ' ' ? 0 : -10);
            dueTown("person;" + sign, value == ' ' ? 1 : -17);
            LeastKnown x = new LeastKnown();
            x.type(value, 1);
            Checks.due("town() of the byte " + value + " alone", value == ' ' ? 0 : -10, x.town());
        }
    }

    private static void bytesBehind() {
        for (int value = 0; value < 256; value++) {
            String sign = String.valueOf((char) value);
            boolean letter = value >= 'a' && value <= 'z';
            boolean digit = value >= '0' && value <= '9';
            dueTown("person" + sign + ";", value == ' ' ? 1 : value == ';' ? -17 : letter ? -10 : -16);
            dueTown("forgets 1" + sign + ";", value == ' ' ? 1 : value == ';' ? -20 : digit ? -18 : -19);
            dueTown("forgets" + sign + "1;", value == ' ' ? 1 : letter ? -10 : -17);
            dueTown("law ne" + sign + "ver;", -14);
        }
    }

    private static void wordsThatAreNone() {
        for (String word : WORDS) {
            String ahead = ahead(word);
            int place = ahead.length();
            for (int i = 0; i < word.length(); i++) {
                String less = word.substring(0, i) + word.substring(i + 1);
                dueFault(ahead + less + ";", place);
                dueFault(ahead + word.substring(0, i) + "x" + word.substring(i) + ";", place);
                dueFault(ahead + word.substring(0, i) + "q" + word.substring(i + 1) + ";", place);
                char capital = (char) (word.charAt(i) - 32);
                dueFault(ahead + word.substring(0, i) + capital + word.substring(i + 1) + ";", place);
            }
            dueFault(ahead + word + "s;", place);
            dueFault(ahead + word + "a;", place);
            dueFault(ahead + word + "z;", place);
            dueFault(ahead + word + word + ";", place);
            dueFault(ahead + word.substring(0, 1), place);
        }
        dueFault("z".repeat(400), 0);
    }

    /** What must stand ahead of a word, that it can stand there. */
    private static String ahead(String word) {
        for (int i = 6; i < WORDS.length; i++) {
            if (WORDS[i].equals(word)) {
                return "law ";
            }
        }
        return "";
    }

    private static void numbersThatAreNone() {
        String head = Checks.people(8) + "knows ";
        String[] none = {"100", "101", "199", "999", "1000", "00", "01", "07", "000", "007", "010", "4294967296",
            "18446744073709551616", "256"};
        for (String number : none) {
            dueFault(head + number + " 1;", 62);
            dueFault(head + "2 " + number + ";", 64);
            dueFault("forgets " + number + ";", 8);
            dueFault("law just " + number + ";", 9);
            dueFault(number, 0);
        }
        dueTown(head + "0 1;", 9);
        dueFault("forgets " + "0".repeat(392), 8);
        dueFault("forgets 0 0;", 10);
    }

    private static void endsTooEarly() {
        String[] begun = {"person", "knows", "knows 0", "knows 0 1", "mutual", "mutual 1", "mutual 1 0", "calls",
            "calls 0", "calls 0 1", "forgets", "forgets 9", "law", "law least", "law second", "law never", "law just",
            "law just 7"};
        for (String item : begun) {
            String text = Checks.people(2) + item;
            dueFault(text, text.length());
            dueFault(text + " ", text.length() + 1);
            dueFault(text + " ".repeat(400 - text.length()), 400);
        }
        dueTown(Checks.people(2), 2);
    }

    private static void firstFault() {
        dueFault("person;!;;", 7);
        dueFault("person knows 100 what", 7);
        dueFault("person;knows 5 5;person", 13);
        dueFault("law just 9 law ?", 9);
        dueFault("forgets 10", 8);
        dueFault("what 100", 0);
        dueFault(Checks.people(9) + "?", 56);
        dueFault("person;calls 1 1;", 13);
    }
}
