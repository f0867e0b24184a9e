/** Promises 2 to 4: THE TEXT, and what a FAULT is. */
public final class TextTest {
    public static void main(String[] args) {
        type();
        clear();
        items();
        blanks();
        faultsOfItems();
        faultsOfNumbers();
        faultsOfBytes();
        faultsOfEnds();
        faultChangesNothing();
        newReading();
        Checks.end("TextTest");
    }

    private static void type() {
        LeastKnown x = new LeastKnown();
        int[] bad = {0, -1, 9, Integer.MIN_VALUE, Integer.MAX_VALUE};
        for (int n : bad) {
            Checks.due("type(0, " + n + ")", LeastKnown.BAD, x.type(0, n));
        }
        Checks.due("count(3)", 0, x.count(3));
        Checks.due("type one byte", 1, x.type(0x41424344454647L << 8 | ';', 1));
        Checks.due("town(): only the lowest byte came, ;", -10, x.town());
        x.clear();
        Checks.due("type eight", 8, x.type(0x706572736f6e3b20L, 8));
        Checks.due("town(): the highest ahead", 1, x.town());
        Checks.due("a high byte", 8, x.type(-1L, 8));
        Checks.due("town(): 255 begins no TOKEN", -10, x.town());
        for (int i = 1; i < 50; i++) {
            Checks.due("type to " + (8 * i + 8), 8 * i + 8, x.type(0, 8));
        }
        Checks.due("FULL at 400", LeastKnown.FULL, x.type(0, 1));
        Checks.due("BAD ahead of FULL", LeastKnown.BAD, x.type(0, 0));
        Checks.due("nothing came", 400, x.count(3));
        Checks.due("clear()", 400, x.clear());
        for (int i = 0; i < 49; i++) {
            x.type(0, 8);
        }
        x.type(0, 3);
        Checks.due("395 and 6", LeastKnown.FULL, x.type(0, 6));
        Checks.due("395 and 5", 400, x.type(0, 5));
    }

    private static void clear() {
        LeastKnown x = new LeastKnown();
        Checks.due("clear() of none", 0, x.clear());
        Checks.type(x, "person;");
        Checks.due("clear()", 7, x.clear());
        Checks.due("clear() again", 0, x.clear());
        Checks.due("town() of none", 0, x.town());
        Checks.due("no PEOPLE", 0, x.count(0));
    }

    private static void items() {
        due("", 0);
        due("    ", 0);
        due("person;", 1);
        due(Checks.people(8), 8);
        due(Checks.people(2) + "knows 0 1;knows 0 1;mutual 0 1;mutual 1 0;", 6);
        due(Checks.people(3) + "calls 0 1;calls 1 0;calls 2 0;", 6);
        due("forgets 0;law least;", 2);
        due("law just 7;forgets 9;", 2);
        due("law just 0;", 1);
        due("person;person;knows 0 1;person;knows 2 0;", 5);
        due("law second;", 1);
        due("law never;", 1);
        LeastKnown x = Checks.told(Checks.people(3) + "knows 0 1;mutual 1 2;calls 2 0;forgets 7;law just 5;");
        Checks.dueKnowledge("knows, mutual", ".10 0.1 01.", x);
        Checks.due("calls", 0, x.person(2, 2));
        Checks.due("no HABIT", LeastKnown.NONE, x.person(0, 2));
        Checks.due("LAW", 2, x.law(0));
        Checks.due("j", 5, x.law(1));
        Checks.due("FORGETS", 7, x.law(2));
        Checks.due("THE TEXT is empty", 0, x.count(3));
        String[] laws = {"least", "second", "just 3", "never"};
        for (int i = 0; i < laws.length; i++) {
            Checks.due("law " + laws[i], i, Checks.told("law " + laws[i] + ";").law(0));
        }
        StringBuilder many = new StringBuilder(Checks.people(2));
        while (many.length() + 9 <= 400) {
            many.append("knows0 1;");
        }
        due(many.toString(), 2 + (many.length() - 14) / 9);
    }

    private static void blanks() {
        due("  person  ;  person;knows 0 1  ;   ", 3);
        due("person;person;knows0 1;calls1 0;", 4);
        due("law just3;", 1);
        due("forgets9;", 1);
        due("lawleast;", -10);
        due("law2;", -13);
        due("person;person;knows 01;", -10 - 20);
        due("person;person;knows 0;", -10 - 21);
        due("per son;", -10);
        due("person;person;knows 0 0;", -10 - 22);
        due("person\t;", -16);
        due("person\n;", -16);
    }

    private static void faultsOfItems() {
        due(Checks.people(9), -10 - 56);
        due(Checks.people(8) + " person", -10 - 57);
        due(";", -10);
        due("person;;", -17);
        due("least;", -10);
        due("just 1;", -10);
        due("5;", -10);
        due("person person;", -17);
        due("person;knows person;", -10 - 13);
        due("person;person;calls 0 1;calls 0 1;", -10 - 30);
        due("person;person;person;calls 0 1;calls 0 2;", -10 - 37);
        due("person;person;calls 0 1;calls 1 1;", -10 - 32);
        due("person;person;mutual 0 0;", -10 - 23);
        due("person;person;calls 1 1;", -10 - 22);
        due("forgets 1;forgets 2;", -20);
        due("forgets 0; forgets 0;", -21);
        due("law least;law least;", -20);
        due("law just 2;person; law never;", -10 - 19);
        due("law person;", -14);
        due("law ;", -14);
        due("law law;", -14);
        due("law just;", -18);
        due("law just least;", -19);
        due("law least 1;", -20);
        due("forgets;", -17);
        due("forgets 1 2;", -20);
        due("person;person;knows 0 1 0;", -10 - 24);
    }

    private static void faultsOfNumbers() {
        due("forgets 10;", -18);
        due("forgets 99;", -18);
        due("forgets 100;", -18);
        due("forgets 00;", -18);
        due("forgets 09;", -18);
        due("law just 8;", -19);
        due("law just 07;", -19);
        due("law just 123456789012345678901234567890;", -19);
        due("knows 0 1;", -16);
        due("person;knows 0 1;", -10 - 15);
        due("person;knows 1 0;", -10 - 13);
        due("person;person;knows 0 2;", -10 - 22);
        due("person;person;mutual 2 0;", -10 - 21);
        due("person;person;calls 0 2;", -10 - 22);
        due("person;person;calls 2 0;", -10 - 20);
        due("person;knows 0 1;person;", -10 - 15);
        due(Checks.people(8) + "knows 7 8;", -10 - 64);
        due(Checks.people(8) + "knows 7 0;", 9);
        due("person;person;knows 0 01;", -10 - 22);
        due("person;person;knows 0 99;", -10 - 22);
    }

    private static void faultsOfBytes() {
        due("Person;", -10);
        due("pErson;", -10);
        due("persoN;", -10);
        due("personX;", -16);
        due("person.", -16);
        due("person,", -16);
        due("person-", -16);
        due("persons;", -10);
        due("perso;", -10);
        due("persona;", -10);
        due("personz;", -10);
        due("forgetss 1;", -10);
        due("forgets -1;", -18);
        due("forgets +1;", -18);
        due("forgets 1a;", -19);
        due("forgets a;", -18);
        due("law seconds;", -14);
        due("person:", -16);
        due("person/", -16);
        due("person`", -16);
        due("person{", -16);
        due("forgets /;", -18);
        due("forgets :;", -18);
        due("person\u0000;", -16);
        due("\u0000", -10);
        due("\u00e9;", -10);
        due("person;\u00ff", -17);
        due("person;person;knows 0 \u00a01;", -10 - 22);
        due("person;$law", -17);
    }

    private static void faultsOfEnds() {
        due("person", -16);
        due("person  ", -18);
        due("law", -13);
        due("law never", -19);
        due("law nev", -14);
        due("law just ", -19);
        due("law just 2", -20);
        due("forgets", -17);
        due("forgets 3", -19);
        due("person;person;knows", -10 - 19);
        due("person;person;knows 0", -10 - 21);
        due("person;person;knows 0 1", -10 - 23);
        due("person;person;knows 0 1   ", -10 - 26);
        due("person;per", -17);
        due(" ".repeat(394) + "person", -410);
        due(" ".repeat(393) + "person;", 1);
        due(" ".repeat(392) + "person;;", -10 - 399);
        due(" ".repeat(399) + "p", -10 - 399);
        due("p".repeat(400), -10);
        due("1".repeat(400), -10);
    }

    private static void faultChangesNothing() {
        LeastKnown x = Checks.told(Checks.people(3) + "knows 0 1;calls 1 2;forgets 5;law just 3;");
        x.go(2);
        x.keep(1);
        String before = Checks.knowledge(x);
        Checks.type(x, "person;person;calls 0 1;knows 1 0;forgets 8;law second;what");
        Checks.due("town()", -10 - 55, x.town());
        Checks.due("town() again", -10 - 55, x.town());
        Checks.due("THE TEXT stays", 59, x.count(3));
        Checks.due("PEOPLE", 3, x.count(0));
        Checks.due("HABITS", 1, x.count(2));
        Checks.due("calls", LeastKnown.NONE, x.person(0, 2));
        Checks.due("LAW", 2, x.law(0));
        Checks.due("j", 3, x.law(1));
        Checks.due("FORGETS", 5, x.law(2));
        Checks.due("YEAR", 2, x.now(0));
        Checks.dueKnowledge("who KNOWS whom", before, x);
        x.anew();
        Checks.dueKnowledge("as at first", ".10 0.0 00.", x);
        Checks.due("the IMAGE stays", 2, x.back(1));
        x.clear();
        Checks.type(x, "law just 1;person;;");
        x.town();
        Checks.due("j stays", 3, x.law(1));
        x.clear();
        Checks.type(x, "person;person;calls 0 1;forgets 1;law never;");
        Checks.due("what a FAULT left counts no more", 5, x.town());
    }

    private static void newReading() {
        LeastKnown x = Checks.told(Checks.people(3) + "knows 0 1;calls 1 2;forgets 5;law just 3;");
        x.go(3);
        x.keep(0);
        x.keep(1);
        x.rate(2, 0);
        Checks.type(x, Checks.people(2) + "knows 1 0;");
        Checks.due("town()", 3, x.town());
        Checks.due("PEOPLE", 2, x.count(0));
        Checks.due("HABITS", 0, x.count(2));
        Checks.due("FORGETS as at first", 0, x.law(2));
        Checks.due("LAW as at first", 0, x.law(0));
        Checks.due("j as at first", 2, x.law(1));
        Checks.due("YEAR", 0, x.now(0));
        Checks.due("last", LeastKnown.NONE, x.now(1));
        Checks.due("reigned", 0, x.person(0, 3));
        Checks.dueKnowledge("who KNOWS whom", ".0 1.", x);
        Checks.due("SEEN", -1, x.seen(1, 0));
        Checks.due("IMAGE 0 is gone", LeastKnown.STATE, x.back(0));
        Checks.due("IMAGE 1 is gone", LeastKnown.STATE, x.back(1));
        Checks.due("THE TRACE goes on", 101, x.trace());
        Checks.due("town() of none", 0, x.town());
        Checks.due("no PEOPLE", 0, x.count(0));
        Checks.due("STATE", LeastKnown.STATE, x.chosen());
        Checks.due("none KNOWS", 0, x.count(1));
        for (int i = 0; i < 3; i++) {
            Checks.type(x, "forgets 3;law just 1;person;person;calls 0 1;");
            Checks.due("town()", 5, x.town());
        }
        x.town();
        Checks.due("FORGETS as at first", 0, x.law(2));
        Checks.due("LAW as at first", 0, x.law(0));
        Checks.due("j as at first", 2, x.law(1));
        Checks.due("HABITS", 0, x.count(2));
    }

    private static void due(String text, int want) {
        LeastKnown x = new LeastKnown();
        Checks.type(x, text);
        Checks.due("town() of \"" + text + "\"", want, x.town());
        Checks.due("count(3) behind \"" + text + "\"", want < 0 ? text.length() : 0, x.count(3));
    }
}
