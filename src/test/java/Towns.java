/** Objects in which all has been used, so that a call that changes what it must not is seen. */
final class Towns {
    private Towns() {
    }

    /** Four PEOPLE, YEAR 3, a LAW of rules(), both IMAGES, a text that could be told. */
    static LeastKnown used() {
        LeastKnown x = Checks.told(Checks.people(4) + "knows 0 1;mutual 2 3;knows 3 0;calls 1 2;forgets 4;law just 3;");
        x.go(2);
        x.keep(0);
        x.meet(0, 3);
        x.go(1);
        x.keep(1);
        x.moves(2);
        x.introduce(3, 1, 0);
        x.rules(2, 4);
        x.rules(3, 0);
        x.rate(3, 1);
        Checks.type(x, "person;person;knows 1 0;forgets 2;law just 1;");
        return x;
    }

    /** The same in YEAR 99. */
    static LeastKnown inLastYear() {
        LeastKnown x = used();
        x.go(99);
        return x;
    }

    /** The same with a text of 400 bytes that could be told. */
    static LeastKnown withFullText() {
        LeastKnown x = used();
        x.clear();
        Checks.type(x, " ".repeat(393) + "person;");
        return x;
    }

    /** The same with a text that has a FAULT. */
    static LeastKnown withFault() {
        LeastKnown x = used();
        x.clear();
        Checks.type(x, "person;person;person;calls 2 1;knows 1 0;forgets 9;law just 7;person;person;what");
        return x;
    }

    /** No PEOPLE, but a LAW of rules(), IMAGE 1, a text that could be told. */
    static LeastKnown empty() {
        LeastKnown x = new LeastKnown();
        x.rules(2, 5);
        x.keep(1);
        Checks.type(x, "person;person;knows 1 0;calls 0 1;");
        return x;
    }

    /** So many PEOPLE who all KNOW one another. */
    static LeastKnown friends(int people) {
        LeastKnown x = Checks.told(Checks.people(people));
        for (int a = 0; a < people; a++) {
            for (int b = 0; b < a; b++) {
                x.meet(a, b);
            }
        }
        return x;
    }
}
