/** A town in which whoever is known to fewest reigns. What each call answers, ../shared/DOC.md says. */
public final class LeastKnown {
    public static final int BAD = -1, STATE = -2, FULL = -3, NONE = -9;
    public static final int NO = -1000000;

    private static final int NOT_SO_MANY = -5, FAULT_BASE = -10;
    private static final int MOST_PEOPLE = 8, MOST_BYTES = 400, LAST_YEAR = 99;
    private static final int LEAST = 0, SECOND = 1, JUST = 2, NEVER = 3;
    private static final int MOST_FORGETS = 9, MOST_JUST = 7, FIRST_JUST = 2;
    private static final int MOST_AHEAD = 40, RING_FROM = 20, RING_YEARS = 20, MOST_RING = 10;
    private static final int MOST_PAIRS = 3, MOST_DAYS = 3;

    private final Text text = new Text();
    private final Reader reader = new Reader();
    private final Now present = new Now();
    private final Image imageZero = new Image();
    private final Image imageOne = new Image();
    private final Foretelling foretelling = new Foretelling();
    // A text with a fault must change nothing, so it is read into the draft, and the two change places.
    private Town told = new Town();
    private Town draft = new Town();
    private long traced;

    public LeastKnown() {
        present.begin(told);
    }

    // ---- people

    public int type(long v, int n) {
        if (n < 1 || n > 8) {
            return BAD;
        }
        if (text.size + n > MOST_BYTES) {
            return FULL;
        }
        for (int i = n - 1; i >= 0; i--) {
            text.add((int) (v >> (8 * i)) & 255);
        }
        return text.size;
    }

    public int clear() {
        int had = text.size;
        text.size = 0;
        return had;
    }

    public int town() {
        int items = reader.read(text, draft);
        if (items < 0) {
            return items;
        }
        Town old = told;
        told = draft;
        draft = old;
        text.size = 0;
        present.begin(told);
        imageZero.kept = false;
        imageOne.kept = false;
        return items;
    }

    public int knows(int a, int b) {
        if (!isPair(a, b)) {
            return BAD;
        }
        return present.isAware(a, b) ? 1 : 0;
    }

    public int seen(int a, int b) {
        if (!isPair(a, b) || !present.isAware(a, b)) {
            return NO;
        }
        return present.sight(a, b);
    }

    public int person(int p, int what) {
        if (!isPerson(p)) {
            return BAD;
        }
        switch (what) {
            case 0: return at(present.counts, p);
            case 1: return present.acquaintances(p);
            case 2: return at(told.calls, p);
            case 3: return at(present.crowns, p);
            default: return BAD;
        }
    }

    public int law(int what) {
        switch (what) {
            case 0: return told.law;
            case 1: return told.just;
            case 2: return told.forgets;
            default: return BAD;
        }
    }

    public int rules(int law, int j) {
        int mostJ = law == JUST ? MOST_JUST : 0;
        if (law < LEAST || law > NEVER || j < 0 || j > mostJ) {
            return BAD;
        }
        int old = told.law;
        told.law = law;
        if (law == JUST) {
            told.just = j;
        }
        return old;
    }

    // ---- years

    public int chosen() {
        return told.people == 0 ? STATE : told.choose(present);
    }

    public int meet(int a, int b) {
        if (!isPair(a, b)) {
            return BAD;
        }
        return present.learn(a, b) + present.learn(b, a);
    }

    public int introduce(int a, int b, int c) {
        if (!isPair(a, b) || !isPair(a, c) || !isPair(b, c)) {
            return BAD;
        }
        if (!present.isAware(a, c)) {
            return STATE;
        }
        return present.learn(b, c);
    }

    public int moves(int p) {
        if (!isPerson(p)) {
            return BAD;
        }
        int ahead = at(present.counts, p);
        present.setKnowers(p, 0);
        return ahead;
    }

    public int go(int n) {
        if (n < 1 || n > LAST_YEAR) {
            return BAD;
        }
        if (present.year >= LAST_YEAR || told.people == 0) {
            return STATE;
        }
        int springs = Math.min(n, LAST_YEAR - present.year);
        for (int i = 0; i < springs; i++) {
            present.spring(told);
        }
        return present.last;
    }

    public int now(int what) {
        switch (what) {
            case 0: return present.year;
            case 1: return present.last;
            case 2: return present.allCounts();
            default: return BAD;
        }
    }

    public int anew() {
        int was = present.year;
        present.begin(told);
        return was;
    }

    // ---- foretold

    public int reigns(int n) {
        if (n < 0 || n > MOST_AHEAD) {
            return BAD;
        }
        return told.people == 0 ? STATE : foretelling.rulerAhead(told, present, n);
    }

    public int ring() {
        return told.people == 0 ? STATE : foretelling.leastRing(told, present);
    }

    public int brings(int p, int would, int i) {
        if (!isPerson(p) || !isChoice(would) || i < -1 || i >= MOST_PAIRS) {
            return BAD;
        }
        int pairs = foretelling.fewestPairs(told, present, p, would == 1);
        if (pairs < 0) {
            return NONE;
        }
        if (i < 0) {
            return pairs;
        }
        return i < pairs ? at(foretelling.row, i) : NOT_SO_MANY;
    }

    public int days(int k, int f, int would, int what) {
        if (k < 1 || k > MOST_DAYS || !isPerson(f) || !isChoice(would) || !isChoice(what)) {
            return BAD;
        }
        int ruler = foretelling.lastDays(told, present, k, f, would == 1);
        return what == 0 ? foretelling.firstAct : ruler;
    }

    public int asks(int p, int j) {
        if (!isPerson(p) || j < 0 || j > MOST_PEOPLE) {
            return BAD;
        }
        return present.fewestAsks(p, j, told.people);
    }

    public int party(int set) {
        return present.isParty(set & told.everyone()) ? 1 : 0;
    }

    public int parties(int what) {
        if (!isChoice(what)) {
            return BAD;
        }
        int many = 0;
        int greatest = 0;
        int most = 1;
        for (int set = 0; set <= told.everyone(); set++) {
            int people = Integer.bitCount(set);
            if (people < 2 || !present.isParty(set)) {
                continue;
            }
            many++;
            if (people > most) {
                most = people;
                greatest = set;
            }
        }
        return what == 0 ? many : greatest;
    }

    // ---- kinds, images

    public int rate(int kind, int p) {
        if (!isPerson(p)) {
            return NO;
        }
        switch (kind) {
            case 0: return asPerson(p);
            case 1: return asShy(p);
            case 2: return asKnown(p);
            case 3: return asMayor(p);
            case 4: return asHermit(p);
            case 5: return asStranger(p);
            default: return NO;
        }
    }

    public int keep(int image) {
        if (!isChoice(image)) {
            return BAD;
        }
        Image kept = imageOf(image);
        kept.now.copyFrom(present);
        kept.kept = true;
        return present.year;
    }

    public int back(int image) {
        if (!isChoice(image)) {
            return BAD;
        }
        Image kept = imageOf(image);
        if (!kept.kept) {
            return STATE;
        }
        present.copyFrom(kept.now);
        return present.year;
    }

    public int count(int what) {
        switch (what) {
            case 0: return told.people;
            case 1: return present.allCounts();
            case 2: return told.habits();
            case 3: return text.size;
            default: return BAD;
        }
    }

    public long trace() {
        return traced;
    }

    // ---- the bodies of the kinds: each calls the one above it once, so that each is traced once

    private int asPerson(int p) {
        traced += 1;
        return at(present.counts, p);
    }

    private int asShy(int p) {
        traced += 10;
        return asPerson(p) - present.acquaintances(p);
    }

    private int asKnown(int p) {
        traced += 100;
        return asPerson(p) + at(present.crowns, p);
    }

    private int asMayor(int p) {
        traced += 1000;
        return 2 * asKnown(p);
    }

    private int asHermit(int p) {
        traced += 10000;
        return asShy(p) + p;
    }

    private int asStranger(int p) {
        traced += 100000;
        return asPerson(p) - present.year;
    }

    // ---- what several calls need

    private boolean isPerson(int p) {
        return p >= 0 && p < told.people;
    }

    private boolean isPair(int a, int b) {
        return isPerson(a) && isPerson(b) && a != b;
    }

    private static boolean isChoice(int n) {
        return n == 0 || n == 1;
    }

    private Image imageOf(int image) {
        return image == 0 ? imageZero : imageOne;
    }

    // Every row is read and written through these, so that no index goes untested.
    private static int at(int[] row, int i) {
        return i >= 0 && i < row.length ? row[i] : 0;
    }

    private static void put(int[] row, int i, int value) {
        if (i >= 0 && i < row.length) {
            row[i] = value;
        }
    }

    private static void copy(int[] from, int[] to) {
        for (int i = 0; i < from.length && i < to.length; i++) {
            to[i] = from[i];
        }
    }

    private static void fill(int[] row, int value) {
        for (int i = 0; i < row.length; i++) {
            row[i] = value;
        }
    }

    /** THE TEXT. */
    private static final class Text {
        final int[] bytes = new int[MOST_BYTES];
        int size;

        void add(int value) {
            if (size < MOST_BYTES) {
                put(bytes, size, value);
                size++;
            }
        }

        // Before and behind all stands 0, which begins no TOKEN and goes on with none.
        int byteAt(int place) {
            return place < size ? at(bytes, place) : 0;
        }

        /** Whether a TOKEN begins there: no blank, and not inside a word or a NUMBER. */
        boolean begins(int place) {
            int before = byteAt(place - 1);
            int here = byteAt(place);
            boolean inWord = isLetter(before) && isLetter(here);
            boolean inNumber = isDigit(before) && isDigit(here);
            return here != ' ' && !inWord && !inNumber;
        }

        static boolean isLetter(int value) {
            return value >= 'a' && value <= 'z';
        }

        static boolean isDigit(int value) {
            return value >= '0' && value <= '9';
        }
    }

    /** Reads a text into a town. */
    private static final class Reader {
        // A word's number is its place among rows of eight signs; a NUMBER n is the TOKEN NUMBER and n.
        private static final String WORDS =
            "person  knows   mutual  calls   forgets law     least   second  just    never   ";
        private static final int WORD_ROW = 8, WORD_COUNT = 10;
        private static final int PERSON = 0, KNOWS = 1, MUTUAL = 2, CALLS = 3, FORGETS = 4, LAW = 5;
        private static final int FIRST_LAW = 6, LAST_LAW = 9;
        private static final int SEMICOLON = 10, WRONG = 11, END = 12, NUMBER = 100;

        private final int[] tokens = new int[MOST_BYTES + 1];
        private final int[] places = new int[MOST_BYTES + 1];
        private int cursor;
        private int fault;
        private boolean lawTold;
        private boolean forgetsTold;

        /** How many ITEMS; -10 less FAULT. */
        int read(Text text, Town town) {
            town.empty();
            findTokens(text);
            cursor = 0;
            fault = -1;
            lawTold = false;
            forgetsTold = false;
            for (int items = 0; items <= MOST_BYTES; items++) {
                if (at(tokens, cursor) == END) {
                    return items;
                }
                readItem(town);
                if (fault >= 0) {
                    return FAULT_BASE - fault;
                }
            }
            return FAULT_BASE - text.size;
        }

        private void findTokens(Text text) {
            int many = 0;
            for (int place = 0; place < text.size; place++) {
                if (text.begins(place)) {
                    put(tokens, many, tokenAt(text, place));
                    put(places, many, place);
                    many++;
                }
            }
            put(tokens, many, END);
            put(places, many, text.size);
        }

        private static int tokenAt(Text text, int place) {
            int sign = text.byteAt(place);
            if (Text.isLetter(sign)) {
                return wordAt(text, place);
            }
            if (Text.isDigit(sign)) {
                return numberAt(text, place);
            }
            return sign == ';' ? SEMICOLON : WRONG;
        }

        private static int wordAt(Text text, int place) {
            for (int word = 0; word < WORD_COUNT; word++) {
                if (isWord(text, place, word)) {
                    return word;
                }
            }
            return WRONG;
        }

        private static boolean isWord(Text text, int place, int word) {
            int from = word * WORD_ROW;
            for (int i = 0; i < WORD_ROW && from + i < WORDS.length(); i++) {
                char due = WORDS.charAt(from + i);
                int sign = text.byteAt(place + i);
                if (due == ' ') {
                    return !Text.isLetter(sign);
                }
                if (sign != due) {
                    return false;
                }
            }
            return false;
        }

        private static int numberAt(Text text, int place) {
            int first = text.byteAt(place) - '0';
            int second = text.byteAt(place + 1);
            if (!Text.isDigit(second)) {
                return NUMBER + first;
            }
            if (first == 0 || Text.isDigit(text.byteAt(place + 2))) {
                return WRONG;
            }
            return NUMBER + 10 * first + second - '0';
        }

        private void readItem(Town town) {
            int word = at(tokens, cursor);
            if (!take(mayBegin(town, word))) {
                return;
            }
            boolean whole = true;
            if (word == PERSON) {
                town.people++;
            } else if (word == FORGETS) {
                whole = readForgets(town);
            } else if (word == LAW) {
                whole = readLaw(town);
            } else {
                whole = readPair(town, word);
            }
            if (whole) {
                take(at(tokens, cursor) == SEMICOLON);
            }
        }

        private boolean mayBegin(Town town, int word) {
            switch (word) {
                case PERSON: return town.people < MOST_PEOPLE;
                case KNOWS: case MUTUAL: case CALLS: return true;
                case FORGETS: return !forgetsTold;
                case LAW: return !lawTold;
                default: return false;
            }
        }

        private boolean readForgets(Town town) {
            forgetsTold = true;
            int years = number();
            if (!take(years >= 0 && years <= MOST_FORGETS)) {
                return false;
            }
            town.forgets = years;
            return true;
        }

        private boolean readLaw(Town town) {
            lawTold = true;
            int word = at(tokens, cursor);
            if (!take(word >= FIRST_LAW && word <= LAST_LAW)) {
                return false;
            }
            town.law = word - FIRST_LAW;
            if (town.law != JUST) {
                return true;
            }
            int j = number();
            if (!take(j >= 0 && j <= MOST_JUST)) {
                return false;
            }
            town.just = j;
            return true;
        }

        private boolean readPair(Town town, int word) {
            int a = number();
            boolean free = word != CALLS || at(town.calls, a) == NONE;
            if (!take(a >= 0 && a < town.people && free)) {
                return false;
            }
            int b = number();
            if (!take(b >= 0 && b < town.people && b != a)) {
                return false;
            }
            if (word == CALLS) {
                put(town.calls, a, b);
            } else {
                town.tell(a, b);
            }
            if (word == MUTUAL) {
                town.tell(b, a);
            }
            return true;
        }

        /** The NUMBER that is next; below 0: none is. */
        private int number() {
            return at(tokens, cursor) - NUMBER;
        }

        /** Goes beyond a TOKEN that can stand here; another one is the FAULT. */
        private boolean take(boolean stands) {
            if (stands) {
                cursor++;
            } else {
                fault = at(places, cursor);
            }
            return stands;
        }
    }

    /** What a text tells, and the LAW. */
    private static final class Town {
        // Of each one the bits of those who were told to KNOW it.
        final int[] knowers = new int[MOST_PEOPLE];
        final int[] calls = new int[MOST_PEOPLE];
        int people;
        int forgets;
        int law;
        int just;

        Town() {
            empty();
        }

        void empty() {
            fill(knowers, 0);
            fill(calls, NONE);
            people = 0;
            forgets = 0;
            law = LEAST;
            just = FIRST_JUST;
        }

        void tell(int a, int b) {
            put(knowers, b, at(knowers, b) | 1 << a);
        }

        int everyone() {
            return (1 << people) - 1;
        }

        int habits() {
            int many = 0;
            for (int p = 0; p < people; p++) {
                if (at(calls, p) != NONE) {
                    many++;
                }
            }
            return many;
        }

        /** The CHOSEN one. */
        int choose(Now now) {
            int all = everyone();
            int least = leastOf(now.counts, all);
            int others = all & ~(1 << least);
            int fresh = all & ~now.reigned;
            switch (law) {
                case SECOND: return others == 0 ? least : leastOf(now.counts, others);
                case JUST: return firstWith(now.counts, least);
                case NEVER: return fresh == 0 ? least : leastOf(now.counts, fresh);
                default: return least;
            }
        }

        private static int leastOf(int[] counts, int set) {
            int least = 0;
            int fewest = MOST_PEOPLE;
            for (int p = 0; p < MOST_PEOPLE; p++) {
                int count = at(counts, p);
                if ((set >> p & 1) == 1 && count < fewest) {
                    fewest = count;
                    least = p;
                }
            }
            return least;
        }

        private int firstWith(int[] counts, int otherwise) {
            for (int p = 0; p < people; p++) {
                if (at(counts, p) == just) {
                    return p;
                }
            }
            return otherwise;
        }
    }

    /** NOW, or what it was, or might be. */
    private static final class Now {
        // Of each one the bits of those who KNOW it; counts go with them: setKnowers() alone writes either.
        final int[] knowers = new int[MOST_PEOPLE];
        final int[] counts = new int[MOST_PEOPLE];
        final int[] sights = new int[MOST_PEOPLE * MOST_PEOPLE];
        final int[] crowns = new int[MOST_PEOPLE];
        int reigned;
        int year;
        int last;

        void begin(Town town) {
            for (int p = 0; p < MOST_PEOPLE; p++) {
                setKnowers(p, at(town.knowers, p));
            }
            fill(sights, -1);
            fill(crowns, 0);
            reigned = 0;
            year = 0;
            last = NONE;
        }

        void copyFrom(Now other) {
            copy(other.knowers, knowers);
            copy(other.counts, counts);
            copy(other.sights, sights);
            copy(other.crowns, crowns);
            reigned = other.reigned;
            year = other.year;
            last = other.last;
        }

        void setKnowers(int p, int bits) {
            put(knowers, p, bits);
            put(counts, p, Integer.bitCount(bits));
        }

        boolean isAware(int a, int b) {
            return (at(knowers, b) >> a & 1) == 1;
        }

        int sight(int a, int b) {
            return at(sights, a * MOST_PEOPLE + b);
        }

        /** From here on a KNOWS b, SEEN this YEAR: 1, where it did not; 0. */
        int learn(int a, int b) {
            int fresh = isAware(a, b) ? 0 : 1;
            setKnowers(b, at(knowers, b) | 1 << a);
            put(sights, a * MOST_PEOPLE + b, year);
            return fresh;
        }

        int acquaintances(int a) {
            int many = 0;
            for (int b = 0; b < MOST_PEOPLE; b++) {
                if (isAware(a, b)) {
                    many++;
                }
            }
            return many;
        }

        int allCounts() {
            int sum = 0;
            for (int p = 0; p < MOST_PEOPLE; p++) {
                sum += at(counts, p);
            }
            return sum;
        }

        /** A SPRING: who reigns. */
        int spring(Town town) {
            for (int a = 0; a < town.people; a++) {
                int b = at(town.calls, a);
                if (b != NONE) {
                    learn(a, b);
                    learn(b, a);
                }
            }
            crown(town.choose(this), town.people);
            if (town.forgets > 0) {
                forget(town);
            }
            year++;
            return last;
        }

        private void crown(int ruler, int people) {
            for (int a = 0; a < people; a++) {
                if (a != ruler) {
                    learn(a, ruler);
                }
            }
            put(crowns, ruler, at(crowns, ruler) + 1);
            reigned |= 1 << ruler;
            last = ruler;
        }

        private void forget(Town town) {
            for (int b = 0; b < town.people; b++) {
                for (int a = 0; a < town.people; a++) {
                    if (isAware(a, b) && year - sight(a, b) >= town.forgets) {
                        setKnowers(b, at(knowers, b) & ~(1 << a));
                    }
                }
            }
        }

        int fewestAsks(int p, int j, int people) {
            int asked = 0;
            int yes = 0;
            for (int q = 0; q < people; q++) {
                int left = people - 1 - asked;
                if (yes >= j || yes + left < j) {
                    return asked;
                }
                if (q != p) {
                    asked++;
                    yes += isAware(q, p) ? 1 : 0;
                }
            }
            return asked;
        }

        /** Whether all of a set KNOW one another both ways: only then does no COUNT change. */
        boolean isParty(int set) {
            for (int p = 0; p < MOST_PEOPLE; p++) {
                int others = set & ~(1 << p);
                if (others != set && (others & ~at(knowers, p)) != 0) {
                    return false;
                }
            }
            return true;
        }
    }

    /** An IMAGE. */
    private static final class Image {
        final Now now = new Now();
        boolean kept;
    }

    /** What would come of NOW; it happens to a copy. */
    private static final class Foretelling {
        // Pairs as 10 A and B, the least 01 and the greatest 67.
        private static final int PAIRS_END = 68;

        final int[] row = new int[MOST_PAIRS];
        int firstAct;
        private final Now mind = new Now();
        private final int[] rulers = new int[RING_YEARS];

        int rulerAhead(Town town, Now now, int n) {
            mind.copyFrom(now);
            for (int i = 0; i < n; i++) {
                mind.spring(town);
            }
            return mind.spring(town);
        }

        int leastRing(Town town, Now now) {
            mind.copyFrom(now);
            for (int i = 0; i < RING_FROM; i++) {
                mind.spring(town);
            }
            for (int i = 0; i < RING_YEARS; i++) {
                put(rulers, i, mind.spring(town));
            }
            for (int p = 1; p <= MOST_RING; p++) {
                if (isRing(p)) {
                    return p;
                }
            }
            return NONE;
        }

        private boolean isRing(int p) {
            for (int i = p; i < RING_YEARS; i++) {
                if (at(rulers, i) != at(rulers, i - p)) {
                    return false;
                }
            }
            return true;
        }

        /** How many pairs; the row has them then. NONE. */
        int fewestPairs(Town town, Now now, int p, boolean would) {
            mind.copyFrom(now);
            for (int pairs = 0; pairs <= MOST_PAIRS; pairs++) {
                if (bringsAbout(this, town, p, would, pairs, 1)) {
                    return pairs;
                }
            }
            return NONE;
        }

        // What calls itself is static, so it is told whose mind it tries out.
        private static boolean bringsAbout(Foretelling own, Town town, int p, boolean would, int left, int from) {
            Now mind = own.mind;
            if (left <= 0) {
                return (town.choose(mind) == p) == would;
            }
            for (int pair = from; pair < PAIRS_END; pair++) {
                int a = pair / 10;
                int b = pair % 10;
                if (a >= b || b >= town.people) {
                    continue;
                }
                int ofA = at(mind.knowers, a);
                int ofB = at(mind.knowers, b);
                mind.setKnowers(a, ofA | 1 << b);
                mind.setKnowers(b, ofB | 1 << a);
                boolean found = bringsAbout(own, town, p, would, left - 1, pair + 1);
                mind.setKnowers(a, ofA);
                mind.setKnowers(b, ofB);
                if (found) {
                    own.noteInFront(pair);
                    return true;
                }
            }
            return false;
        }

        // The last pair of a row is found first, on the way back.
        private void noteInFront(int pair) {
            for (int i = MOST_PAIRS - 1; i > 0; i--) {
                put(row, i, at(row, i - 1));
            }
            put(row, 0, pair);
        }

        /** Who is CHOSEN; what the first one does is firstAct then. */
        int lastDays(Town town, Now now, int days, int f, boolean would) {
            mind.copyFrom(now);
            firstAct = NONE;
            return outcome(this, town, f, would, 0, Math.min(days, MOST_DAYS));
        }

        private static int outcome(Foretelling own, Town town, int f, boolean would, int day, int days) {
            Now mind = own.mind;
            if (day >= days || town.people < 1) {
                return town.choose(mind);
            }
            int caller = (f + day) % town.people;
            int idle = outcome(own, town, f, would, day + 1, days);
            if ((idle == caller) == would) {
                return idle;
            }
            for (int other = 0; other < town.people; other++) {
                if (other == caller) {
                    continue;
                }
                int ofCaller = at(mind.knowers, caller);
                int ofOther = at(mind.knowers, other);
                mind.setKnowers(caller, ofCaller | 1 << other);
                mind.setKnowers(other, ofOther | 1 << caller);
                int ruler = outcome(own, town, f, would, day + 1, days);
                mind.setKnowers(caller, ofCaller);
                mind.setKnowers(other, ofOther);
                if ((ruler == caller) == would) {
                    if (day == 0) {
                        own.firstAct = other;
                    }
                    return ruler;
                }
            }
            return idle;
        }
    }
}
