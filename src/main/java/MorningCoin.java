import java.util.Arrays;

/** Children of whom by a coin some had mornings: what they answered, how else they might have been dealt. */
public final class MorningCoin {
    public static final int NONE = -1;

    private static final int NO_D = -1000000;
    private static final int CHILDREN_MOST = 14;
    private static final int THINGS_MOST = 12;
    private static final int TEXTS_MOST = 6;
    private static final int LINKS_MOST = 20;
    private static final int STEPS_MOST = 8;
    private static final int BYTES_MOST = 300;
    private static final int BYTES_FED = 20;
    private static final int CLAUSES_MOST = 10;
    private static final int OPEN_MOST = 8;
    private static final int NUMBER_MOST = 9999;
    private static final int ANSWER_MOST = 99;
    private static final int VALUE_MOST = 1000000;
    private static final int WAYS_MOST = 1000000;
    private static final int T_MOST = 1000;
    private static final int COST_MOST = 9999;
    private static final int COST_FIRST = 1000;
    private static final int SEED_MOST = 9999;
    private static final int CHANGED_MOST = 4;

    // Each word of this line is the TOKEN of its own place in it: the NAMES come first, the CLAUSES last.
    private static final String WORDS =
        "sex wit home works sexb witb homeb worksb had age draw not and or many near value together apart over found ";
    private static final int SEX = 0;
    private static final int WIT = 1;
    private static final int HOME = 2;
    private static final int WORKS = 3;
    private static final int OF_OTHER = 4;
    private static final int HAD = 8;
    private static final int AGE = 9;
    private static final int DRAW = 10;
    private static final int NAMES = 11;
    private static final int NOT = 11;
    private static final int AND = 12;
    private static final int OR = 13;
    private static final int MANY = 14;
    private static final int NEAR = 15;
    private static final int VALUE = 16;
    private static final int TOGETHER = 17;
    private static final int APART = 18;
    private static final int OVER = 19;
    private static final int FOUND = 20;
    private static final int AT_MOST = 21;
    private static final int AT_LEAST = 22;
    private static final int BELOW = 23;
    private static final int ABOVE = 24;
    private static final int ALIKE = 25;
    private static final int UNLIKE = 26;
    private static final int PLUS = 27;
    private static final int MINUS = 28;
    private static final int TIMES = 29;
    private static final int BY = 30;
    private static final int NEGATE = 31;
    private static final int OPEN = 32;
    private static final int CLOSE = 33;
    private static final int STOP = 34;
    private static final int END = 35;
    private static final int WRONG = 36;
    // A NUMBER is the TOKEN NUMBER + its value, so that it takes one place in a TEXT's code.
    private static final int NUMBER = 100;

    private static final int FAULT_STANDS = 1;
    private static final int FAULT_NUMBER = 2;
    private static final int FAULT_OPEN = 3;
    private static final int FAULT_TWICE = 4;
    private static final int FAULT_NAME = 5;
    private static final int FAULT_CLAUSES = 6;

    private final Children children = new Children();
    private final Things things = new Things();
    private final Links links = new Links();
    private final Land land = new Land();
    private final Text[] texts = new Text[TEXTS_MOST];
    private int textCount;
    private final int[] tape = new int[BYTES_MOST];
    private int tapeLength;
    private final Reader reader = new Reader();
    private int latestFault = NONE;
    private int latestPlace = NONE;
    private int cost = COST_FIRST;
    private final Judge judge = new Judge();
    private final Dealings dealings = new Dealings();
    private final Tally tally = new Tally();
    private final Tally otherTally = new Tally();
    private final int[] fars = new int[THINGS_MOST];
    private final Image kept = new Image();

    public MorningCoin() {
        for (int i = 0; i < TEXTS_MOST; i++) {
            texts[i] = new Text();
        }
    }

    public int child(int sex, int wit, int home, boolean works, boolean coin) {
        if (!within(sex, 1) || !within(wit, 99) || !within(home, 9) || children.count >= CHILDREN_MOST) {
            return NONE;
        }
        dealings.forget();
        return children.add(sex, wit, home, works ? 1 : 0, coin);
    }

    public boolean had(int child, boolean is) {
        if (!children.has(child)) {
            return false;
        }
        children.had = is ? children.had | 1 << child : children.had & ~(1 << child);
        return true;
    }

    public int thing(int kind, int age, boolean less, int price) {
        if (!within(kind, 3) || !within(age, 99) || !within(price, 999) || things.count >= THINGS_MOST) {
            return NONE;
        }
        return things.add(kind, age, less, price);
    }

    public boolean answer(int thing, int child, int v) {
        if (!things.has(thing) || !children.has(child) || v != NONE && !within(v, ANSWER_MOST)) {
            return false;
        }
        things.tell(thing, child, v);
        return true;
    }

    public int answered(int thing, int child) {
        return things.has(thing) && children.has(child) ? things.told(thing, child) : NONE;
    }

    public int difference(int thing, int sex, int what) {
        if (!things.has(thing) || !within(sex, 2) || !within(what, 2)) {
            return NO_D;
        }
        tally.load(things, thing, sex == 2 ? children.all() : children.ofSex(sex));
        int lower = tally.lower(children.had);
        if (lower == 0) {
            return NO_D;
        }
        int upper = tally.upper(children.had);
        if (what == 2) {
            return upper * 1000 / lower;
        }
        return what == 0 ? upper : lower;
    }

    public int feed(int a, int b, int c, int d, int e) {
        if (tapeLength + BYTES_FED > BYTES_MOST) {
            return NONE;
        }
        putFour(a);
        putFour(b);
        putFour(c);
        putFour(d);
        putFour(e);
        return tapeLength;
    }

    public int end(int n) {
        if (n < 0 || n > tapeLength) {
            return NONE;
        }
        tapeLength = n;
        return n;
    }

    public int text() {
        if (textCount >= TEXTS_MOST) {
            return NONE;
        }
        reader.read(tape, tapeLength, texts[textCount]);
        latestFault = reader.fault;
        latestPlace = reader.place;
        tapeLength = 0;
        if (reader.fault != 0) {
            return NONE;
        }
        textCount++;
        return textCount - 1;
    }

    public int fault(int what) {
        if (what == 0) {
            return latestFault;
        }
        return what == 1 ? latestPlace : NONE;
    }

    public int deals(int text, int i) {
        if (!isText(text) || i < NONE) {
            return NONE;
        }
        deal(text);
        if (i == NONE) {
            return dealings.count;
        }
        return i < dealings.count && i < dealings.row.length ? dealings.row[i] : NONE;
    }

    public int odds(int text, int thing, int what) {
        boolean asksT = isT(what - 1000);
        if (!isText(text) || !things.has(thing) || !within(what, 1) && !asksT) {
            return NONE;
        }
        deal(text);
        int far = asFar(thing, children.all(), children.had);
        if (far == NONE || dealings.count == 0) {
            return NONE;
        }
        if (asksT) {
            return stands(far, what - 1000) ? 1 : 0;
        }
        return what == 0 ? far : far * 1000 / dealings.count;
    }

    public int paid(int text, int things, int t) {
        if (!isText(text) || !this.things.hasAll(things) || !isT(t)) {
            return NONE;
        }
        deal(text);
        int left = withOdds(things);
        int paid = 0;
        for (int k = Integer.bitCount(left); k > 0; k--) {
            int thing = leastOf(fars, left);
            if (thing == NONE || !stands(fars[thing] * k, t)) {
                break;
            }
            paid |= 1 << thing;
            left &= ~(1 << thing);
        }
        return paid;
    }

    public int few(int text, int thing, int t, int what) {
        if (!isText(text) || !things.has(thing) || !isT(t) || !within(what, 2)) {
            return NONE;
        }
        deal(text);
        if (asFar(thing, children.all(), children.had) == NONE) {
            return NONE;
        }
        int those = fewest(thing, t);
        if (those == NONE) {
            return NONE;
        }
        if (what == 0) {
            return Integer.bitCount(those);
        }
        return lowest(what == 1 ? those : those & (those - 1));
    }

    public int changed(int text, int thing, boolean most) {
        if (!isText(text) || !things.has(thing)) {
            return NONE;
        }
        deal(text);
        int taken = lowestFew(children.had ^ children.coins, CHANGED_MOST);
        int sets = 1 << Integer.bitCount(taken);
        int best = NONE;
        int set = 0;
        for (int i = 0; i < sets; i++) {
            int far = asFar(thing, children.all(), children.had ^ set);
            if (far != NONE && (best == NONE || (most ? far > best : far < best))) {
                best = far;
            }
            // The next subset of those taken, in rising order.
            set = (set - taken) & taken;
        }
        return best;
    }

    public int lost(int thing, boolean most) {
        if (!things.has(thing)) {
            return NO_D;
        }
        int n = Integer.bitCount(children.had);
        int m = children.count - n;
        if (n <= 0 || m <= 0) {
            return NO_D;
        }
        int s = 0;
        int r = 0;
        for (int child = 0; child < children.count; child++) {
            boolean has = (children.had >> child & 1) == 1;
            int value = things.value(thing, child);
            if (value == NONE) {
                value = has == most ? ANSWER_MOST : 0;
            }
            s += has ? value : 0;
            r += has ? 0 : value;
        }
        return (s * m - r * n) * 1000 / (n * m);
    }

    public boolean costs(int v) {
        if (v < 1 || v > COST_MOST) {
            return false;
        }
        cost = v;
        return true;
    }

    public int back(int things, int what) {
        if (!this.things.hasAll(things) || !within(what, 1)) {
            return NO_D;
        }
        long sum = 0;
        long greatest = 0;
        int most = NONE;
        for (int thing = 0; thing < this.things.count; thing++) {
            int d = (things >> thing & 1) == 1 ? thousandths(thing) : NO_D;
            if (d != NO_D) {
                long part = (long) this.things.prices[thing] * d;
                sum += part;
                if (most == NONE || part > greatest) {
                    most = thing;
                    greatest = part;
                }
            }
        }
        if (most == NONE || cost < 1) {
            return NO_D;
        }
        return what == 0 ? (int) (sum / cost) : most;
    }

    public int course(int text, int kind, int t, int what) {
        if (!isText(text) || !within(kind, 3) || !isT(t) || !within(what, 2)) {
            return NONE;
        }
        deal(text);
        int bits = 0;
        int left = things.ofKind(kind);
        int many = Integer.bitCount(left);
        for (int i = 0; i < many; i++) {
            int thing = leastOf(things.ages, left);
            if (thing != NONE && stands(asFar(thing, children.all(), children.had), t)) {
                bits |= 1 << i;
            }
            left &= thing == NONE ? left : ~(1 << thing);
        }
        if (what == 0) {
            return bits;
        }
        int gone = firstBehind(~bits, lowest(bits), many);
        return what == 1 ? gone : firstBehind(bits, gone, many);
    }

    public int link(int from, int to) {
        if (!things.has(from) || !things.has(to) || things.ages[to] <= things.ages[from]) {
            return NONE;
        }
        return links.add(from, to);
    }

    public int ways(int from, int to, int what) {
        if (!things.has(from) || !things.has(to) || !within(what, 1)) {
            return NONE;
        }
        links.walk(from, to);
        return what == 0 ? links.fewest : Math.min(links.ways, WAYS_MOST);
    }

    public int gap(int text, int thing) {
        if (!isText(text) || !things.has(thing)) {
            return NONE;
        }
        deal(text);
        tally.load(things, thing, children.ofSex(0));
        otherTally.load(things, thing, children.ofSex(1));
        long really = gapLower(children.had);
        if (really == 0 || dealings.count == 0) {
            return NONE;
        }
        long reallyUpper = gapUpper(children.had);
        int far = 0;
        for (int i = 0; i < dealings.count && i < dealings.row.length; i++) {
            int set = dealings.row[i];
            long lower = gapLower(set);
            if (lower != 0 && gapUpper(set) * really >= reallyUpper * lower) {
                far++;
            }
        }
        return far;
    }

    public int step(int low, int high) {
        if (low < -100 || high > 200 || low > high) {
            return NONE;
        }
        return land.add(low, high);
    }

    public int land(int thing, boolean most) {
        int d = things.has(thing) ? thousandths(thing) : NO_D;
        return d == NO_D ? NO_D : land.through(d, most);
    }

    public int live(int text, int thing, int seed) {
        if (!isText(text) || !things.has(thing) || !within(seed, SEED_MOST)) {
            return NONE;
        }
        Text laws = texts[text];
        int x = seed * 7 + 11;
        int found = 0;
        for (int child = 0; child < children.count; child++) {
            judge.see(children, child, 0);
            judge.seeLife(children.had >> child & 1, things.ages[thing], x % 100);
            int value = NONE;
            if (!laws.has(FOUND) || judge.some(laws, FOUND)) {
                value = Math.max(0, Math.min(judge.value(laws), ANSWER_MOST));
                found++;
            }
            things.tell(thing, child, value);
            x = (x * 171 + 5) % 30323;
        }
        return found;
    }

    public int image() {
        kept.children = children.count;
        kept.coins = children.coins;
        kept.had = children.had;
        kept.things = things.count;
        kept.texts = textCount;
        kept.links = links.count;
        kept.steps = land.count;
        kept.cost = cost;
        System.arraycopy(things.answers, 0, kept.answers, 0, kept.answers.length);
        return children.count;
    }

    public int again() {
        // All that is told one by one was only added to since the image: its counts alone bring it back.
        children.count = kept.children;
        children.coins = kept.coins;
        children.had = kept.had;
        things.count = kept.things;
        textCount = kept.texts;
        links.count = kept.links;
        land.count = kept.steps;
        cost = kept.cost;
        System.arraycopy(kept.answers, 0, things.answers, 0, kept.answers.length);
        dealings.forget();
        return children.count;
    }

    public int about(int what) {
        switch (what) {
            case 0: return children.count;
            case 1: return things.count;
            case 2: return textCount;
            case 3: return links.count;
            case 4: return land.count;
            case 5: return cost;
            case 6: return tapeLength;
            case 7: return children.had;
            case 8: return children.coins;
            default: return NONE;
        }
    }

    private static boolean within(int value, int most) {
        return value >= 0 && value <= most;
    }

    private static boolean isT(int t) {
        return t >= 1 && t <= T_MOST;
    }

    private boolean isText(int text) {
        return text >= 0 && text < textCount;
    }

    private void putFour(int bytes) {
        for (int shift = 24; shift >= 0; shift -= 8) {
            if (tapeLength < tape.length) {
                tape[tapeLength] = bytes >> shift & 255;
                tapeLength++;
            }
        }
    }

    /** Puts the DEALS of a TEXT into the row, if they aren't in it. */
    private void deal(int text) {
        if (dealings.text != text) {
            dealings.deal(texts[text], children, judge);
            dealings.text = text;
        }
    }

    /** AS FAR of a THING by the ANSWERS of some CHILDREN alone, those of a set being HAD really; NONE: no ODDS. */
    private int asFar(int thing, int among, int had) {
        tally.load(things, thing, among);
        return tally.asFar(dealings, had);
    }

    private boolean stands(int far, int t) {
        return far != NONE && far * 1000 <= t * dealings.count;
    }

    /** Those of a set of THINGS that have ODDS; their AS FAR are in the row then. */
    private int withOdds(int set) {
        int with = 0;
        for (int thing = 0; thing < things.count; thing++) {
            if ((set >> thing & 1) == 1) {
                fars[thing] = asFar(thing, children.all(), children.had);
                with |= fars[thing] == NONE ? 0 : 1 << thing;
            }
        }
        return with;
    }

    /** The one of a set whose key is least, of like ones the lowest; NONE of no set. */
    private static int leastOf(int[] keys, int set) {
        int least = NONE;
        for (int i = 0; i < keys.length; i++) {
            if ((set >> i & 1) == 1 && (least == NONE || keys[i] < keys[least])) {
                least = i;
            }
        }
        return least;
    }

    /** The fewest CHILDREN (as a set) without whose ANSWERS a THING doesn't STAND; NONE: more than two. */
    private int fewest(int thing, int t) {
        int all = children.all();
        if (!stands(asFar(thing, all, children.had), t)) {
            return 0;
        }
        for (int one = 0; one < children.count; one++) {
            if (!stands(asFar(thing, all & ~(1 << one), children.had), t)) {
                return 1 << one;
            }
        }
        for (int one = 0; one < children.count; one++) {
            for (int two = one + 1; two < children.count; two++) {
                int pair = 1 << one | 1 << two;
                if (!stands(asFar(thing, all & ~pair, children.had), t)) {
                    return pair;
                }
            }
        }
        return NONE;
    }

    private static int lowest(int set) {
        return set == 0 ? NONE : Integer.bitCount((set & -set) - 1);
    }

    private static int lowestFew(int set, int most) {
        int left = set;
        for (int i = 0; i < most; i++) {
            left &= left - 1;
        }
        return set & ~left;
    }

    /** The first of the bits behind a place and below an end; NONE: none such, or no place. */
    private static int firstBehind(int bits, int place, int end) {
        for (int i = place + 1; place != NONE && i < end; i++) {
            if ((bits >> i & 1) == 1) {
                return i;
            }
        }
        return NONE;
    }

    /** D really in thousandths. */
    private int thousandths(int thing) {
        tally.load(things, thing, children.all());
        int lower = tally.lower(children.had);
        return lower == 0 ? NO_D : tally.upper(children.had) * 1000 / lower;
    }

    /** How far from 0 the GAP is by a set, as the upper of a fraction. */
    private long gapUpper(int set) {
        long one = (long) tally.upper(set) * otherTally.lower(set);
        long two = (long) otherTally.upper(set) * tally.lower(set);
        return Math.abs(one - two);
    }

    private long gapLower(int set) {
        return (long) tally.lower(set) * otherTally.lower(set);
    }

    private static final class Children {
        final int[] sexes = new int[CHILDREN_MOST];
        final int[] wits = new int[CHILDREN_MOST];
        final int[] homes = new int[CHILDREN_MOST];
        final int[] works = new int[CHILDREN_MOST];
        int count;
        int coins;
        int had;

        int add(int sex, int wit, int home, int worked, boolean coin) {
            if (count >= CHILDREN_MOST) {
                return NONE;
            }
            sexes[count] = sex;
            wits[count] = wit;
            homes[count] = home;
            works[count] = worked;
            coins |= coin ? 1 << count : 0;
            had |= coin ? 1 << count : 0;
            count++;
            return count - 1;
        }

        boolean has(int one) {
            return one >= 0 && one < count;
        }

        int all() {
            return (1 << count) - 1;
        }

        int ofSex(int sex) {
            int set = 0;
            for (int i = 0; i < count; i++) {
                set |= sexes[i] == sex ? 1 << i : 0;
            }
            return set;
        }
    }

    private static final class Things {
        final int[] kinds = new int[THINGS_MOST];
        final int[] ages = new int[THINGS_MOST];
        final boolean[] less = new boolean[THINGS_MOST];
        final int[] prices = new int[THINGS_MOST];
        final int[] answers = new int[THINGS_MOST * CHILDREN_MOST];
        int count;

        Things() {
            Arrays.fill(answers, NONE);
        }

        int add(int kind, int age, boolean isLess, int price) {
            if (count >= THINGS_MOST) {
                return NONE;
            }
            kinds[count] = kind;
            ages[count] = age;
            less[count] = isLess;
            prices[count] = price;
            count++;
            return count - 1;
        }

        boolean has(int one) {
            return one >= 0 && one < count;
        }

        boolean hasAll(int set) {
            return set >>> count == 0;
        }

        int ofKind(int kind) {
            int set = 0;
            for (int i = 0; i < count; i++) {
                set |= kinds[i] == kind ? 1 << i : 0;
            }
            return set;
        }

        void tell(int one, int by, int v) {
            int at = one * CHILDREN_MOST + by;
            if (at >= 0 && at < answers.length) {
                answers[at] = v;
            }
        }

        int told(int one, int by) {
            int at = one * CHILDREN_MOST + by;
            return at >= 0 && at < answers.length ? answers[at] : NONE;
        }

        /** An ANSWER for D: if LESS is better, what it lacks to 99, which turns every D about and keeps it above 0. */
        int value(int one, int by) {
            int v = told(one, by);
            return v != NONE && has(one) && less[one] ? ANSWER_MOST - v : v;
        }
    }

    /** A TEXT as it was read: its CLAUSES, each with its formula as code, operands ahead of what joins them. */
    private static final class Text {
        final int[] kinds = new int[CLAUSES_MOST];
        // The code of clause i is from edge i on, up to edge i + 1.
        final int[] edges = new int[CLAUSES_MOST + 1];
        final int[] code = new int[BYTES_MOST];
        int clauses;
        int many;
        int near;

        void clear() {
            clauses = 0;
            many = NONE;
            near = NONE;
        }

        boolean isFull() {
            return clauses >= CLAUSES_MOST;
        }

        void begin(int kind) {
            if (clauses < CLAUSES_MOST) {
                kinds[clauses] = kind;
                edges[clauses + 1] = edges[clauses];
                clauses++;
            }
        }

        void emit(int token) {
            int at = edges[clauses];
            if (clauses > 0 && at < code.length) {
                code[at] = token;
                edges[clauses] = at + 1;
            }
        }

        boolean has(int kind) {
            for (int i = 0; i < clauses; i++) {
                if (kinds[i] == kind) {
                    return true;
                }
            }
            return false;
        }
    }

    /** Reads a tape, TOKEN by TOKEN, into a TEXT, up to its first FAULT. */
    private static final class Reader {
        private static final int AT_CLAUSE = 0;
        private static final int AT_NUMBER = 1;
        private static final int AT_STOP = 2;
        private static final int AT_OPERAND = 3;
        private static final int AT_OPERATOR = 4;

        // What waits for its right side: at each of the open ones a sum and a product, and some few around all.
        final int[] waiting = new int[3 * OPEN_MOST + 8];
        int top;
        int open;
        int brackets;
        int[] tape;
        int length;
        int at;
        int start;
        int token;
        int state;
        int kind;
        boolean startsAsk;
        boolean compared;
        Text text;
        int fault;
        int place;

        void read(int[] bytes, int many, Text into) {
            tape = bytes;
            length = Math.min(many, bytes.length);
            at = 0;
            state = AT_CLAUSE;
            fault = 0;
            place = NONE;
            text = into;
            into.clear();
            // A TOKEN has one byte or more, so that the end comes after these many at the latest.
            for (int i = 0; i <= length && fault == 0; i++) {
                next();
                if (token == END && state == AT_CLAUSE) {
                    break;
                }
                switch (state) {
                    case AT_CLAUSE: takeClause(); break;
                    case AT_NUMBER: takeNumber(); break;
                    case AT_STOP: takeStop(); break;
                    case AT_OPERAND: takeOperand(); break;
                    default: takeOperator(); break;
                }
            }
        }

        private void fail(int what) {
            if (fault == 0) {
                fault = what;
                place = start;
            }
        }

        private void takeClause() {
            if (token < MANY || token > FOUND) {
                fail(FAULT_STANDS);
            } else if (token <= VALUE && text.has(token)) {
                fail(FAULT_TWICE);
            } else if (text.isFull()) {
                fail(FAULT_CLAUSES);
            } else {
                kind = token;
                text.begin(kind);
                top = 0;
                open = 0;
                brackets = 0;
                startsAsk = kind != VALUE;
                compared = false;
                state = kind <= NEAR ? AT_NUMBER : AT_OPERAND;
            }
        }

        private void takeNumber() {
            int number = token - NUMBER;
            if (number < 0) {
                fail(FAULT_STANDS);
            } else if (number > (kind == MANY ? CHILDREN_MOST : NUMBER_MOST)) {
                fail(FAULT_NUMBER);
            } else {
                text.many = kind == MANY ? number : text.many;
                text.near = kind == NEAR ? number : text.near;
                state = AT_STOP;
            }
        }

        private void takeStop() {
            if (token != STOP) {
                fail(FAULT_STANDS);
            }
            state = AT_CLAUSE;
        }

        private void takeOperand() {
            if (token >= NUMBER) {
                takeOne(token - NUMBER > NUMBER_MOST ? FAULT_NUMBER : 0);
            } else if (token < NAMES) {
                takeOne(hasName(token) ? 0 : FAULT_NAME);
            } else if (token == OPEN || token == MINUS || token == NOT && startsAsk) {
                takeOpening();
            } else {
                fail(FAULT_STANDS);
            }
            startsAsk = startsAsk && token == NOT;
        }

        private void takeOne(int wrong) {
            if (wrong != 0) {
                fail(wrong);
            } else {
                text.emit(token);
                state = AT_OPERATOR;
            }
        }

        private void takeOpening() {
            if (open >= OPEN_MOST) {
                fail(FAULT_OPEN);
                return;
            }
            open++;
            brackets += token == OPEN ? 1 : 0;
            push(token == MINUS ? NEGATE : token);
        }

        private boolean hasName(int name) {
            switch (kind) {
                case OVER: return name < OF_OTHER;
                case TOGETHER:
                case APART: return name < HAD;
                default: return name < OF_OTHER || name >= HAD;
            }
        }

        private void takeOperator() {
            boolean inside = brackets > 0;
            if (token >= PLUS && token <= BY) {
                takeBinary();
            } else if (inside && token == CLOSE) {
                takeClose();
            } else if (!inside && kind != VALUE && !compared && token >= AT_MOST && token <= UNLIKE) {
                compared = true;
                takeBinary();
            } else if (!inside && compared && (token == AND || token == OR)) {
                compared = false;
                startsAsk = true;
                takeBinary();
            } else if (!inside && compared == (kind != VALUE) && token == STOP) {
                settle(1);
                state = AT_CLAUSE;
            } else {
                fail(FAULT_STANDS);
            }
        }

        private void takeBinary() {
            settle(rank(token));
            push(token);
            state = AT_OPERAND;
        }

        private void takeClose() {
            settle(1);
            if (top > 0 && waiting[top - 1] == OPEN) {
                top--;
                open--;
                brackets--;
            }
        }

        private void push(int token) {
            if (top < waiting.length) {
                waiting[top] = token;
                top++;
            }
        }

        /**
         * Emits what waits and binds as close as a rank, or closer, back to the latest bracket. A - of a ONE waits so
         * until the TOKEN behind that ONE, which comes ahead of anything that could open next.
         */
        private void settle(int rank) {
            while (top > 0 && rank(waiting[top - 1]) >= rank) {
                top--;
                int waited = waiting[top];
                open -= waited == NOT || waited == NEGATE ? 1 : 0;
                text.emit(waited);
            }
        }

        /** How close what waits binds; a bracket is below all. */
        private static int rank(int token) {
            switch (token) {
                case OR: return 1;
                case AND: return 2;
                case NOT: return 3;
                case PLUS:
                case MINUS: return 5;
                case TIMES:
                case BY: return 6;
                case NEGATE: return 7;
                default: return token >= AT_MOST && token <= UNLIKE ? 4 : 0;
            }
        }

        private void next() {
            while (at < length && (tape[at] == 32 || tape[at] == 10)) {
                at++;
            }
            start = at;
            if (at >= length) {
                token = END;
            } else if (isLetter(tape[at])) {
                nextWord();
            } else if (isDigit(tape[at])) {
                nextNumber();
            } else {
                nextSign();
            }
        }

        private static boolean isLetter(int b) {
            return b >= 'a' && b <= 'z' || b >= 'A' && b <= 'Z';
        }

        private static boolean isDigit(int b) {
            return b >= '0' && b <= '9';
        }

        private void nextWord() {
            while (at < length && isLetter(tape[at])) {
                at++;
            }
            token = WRONG;
            int word = 0;
            int first = 0;
            for (int i = 0; i < WORDS.length(); i++) {
                if (WORDS.charAt(i) == ' ') {
                    token = isWord(first, i) ? word : token;
                    first = i + 1;
                    word++;
                }
            }
        }

        private boolean isWord(int first, int end) {
            if (end - first != at - start) {
                return false;
            }
            for (int i = 0; i < at - start; i++) {
                if (WORDS.charAt(first + i) != tape[start + i]) {
                    return false;
                }
            }
            return true;
        }

        private void nextNumber() {
            int value = 0;
            while (at < length && isDigit(tape[at])) {
                // Above the most all are alike, and so the value can't run over.
                value = Math.min(value * 10 + tape[at] - '0', NUMBER_MOST + 1);
                at++;
            }
            token = NUMBER + value;
        }

        private void nextSign() {
            token = sign(tape[at]);
            at++;
            if ((token == BELOW || token == ABOVE) && at < length && tape[at] == '=') {
                token = token == BELOW ? AT_MOST : AT_LEAST;
                at++;
            }
        }

        private static int sign(int b) {
            switch (b) {
                case '<': return BELOW;
                case '>': return ABOVE;
                case '=': return ALIKE;
                case '#': return UNLIKE;
                case '+': return PLUS;
                case '-': return MINUS;
                case '*': return TIMES;
                case '/': return BY;
                case '(': return OPEN;
                case ')': return CLOSE;
                case ';': return STOP;
                default: return WRONG;
            }
        }
    }

    /** Finds what a TEXT's formulas are for CHILDREN. */
    private static final class Judge {
        final int[] names = new int[NAMES];
        // Two operands wait at each of the open ones, and some few around all.
        final int[] stack = new int[2 * OPEN_MOST + 16];

        /** Puts a CHILD behind its NAMES, from the one of sex on (0), or of sexb (OF_OTHER). */
        void see(Children children, int one, int from) {
            if (!children.has(one) || from < 0 || from > OF_OTHER) {
                return;
            }
            names[from + SEX] = children.sexes[one];
            names[from + WIT] = children.wits[one];
            names[from + HOME] = children.homes[one];
            names[from + WORKS] = children.works[one];
        }

        void seeLife(int isHad, int age, int draw) {
            names[HAD] = isHad;
            names[AGE] = age;
            names[DRAW] = draw;
        }

        /** Whether some CLAUSE of a kind is so. */
        boolean some(Text text, int kind) {
            for (int i = 0; i < text.clauses; i++) {
                if (text.kinds[i] == kind && run(text, i) != 0) {
                    return true;
                }
            }
            return false;
        }

        int value(Text text) {
            for (int i = 0; i < text.clauses; i++) {
                if (text.kinds[i] == VALUE) {
                    return run(text, i);
                }
            }
            return 0;
        }

        private int run(Text text, int clause) {
            int top = 0;
            for (int i = text.edges[clause]; i < text.edges[clause + 1] && i < text.code.length; i++) {
                int token = text.code[i];
                boolean isOne = token >= NUMBER || token < NAMES;
                if (isOne && top < stack.length) {
                    stack[top] = token >= NUMBER ? token - NUMBER : names[token];
                    top++;
                } else if ((token == NOT || token == NEGATE) && top > 0) {
                    stack[top - 1] = token == NOT ? 1 - stack[top - 1] : -stack[top - 1];
                } else if (!isOne && top > 1) {
                    top--;
                    long joined = joined(token, stack[top - 1], stack[top]);
                    stack[top - 1] = (int) Math.max(-VALUE_MOST, Math.min(joined, VALUE_MOST));
                }
            }
            return top > 0 ? stack[0] : 0;
        }

        private static long joined(int token, long a, long b) {
            switch (token) {
                case AND: return a & b;
                case OR: return a | b;
                case AT_MOST: return a <= b ? 1 : 0;
                case AT_LEAST: return a >= b ? 1 : 0;
                case BELOW: return a < b ? 1 : 0;
                case ABOVE: return a > b ? 1 : 0;
                case ALIKE: return a == b ? 1 : 0;
                case UNLIKE: return a != b ? 1 : 0;
                case PLUS: return a + b;
                case MINUS: return a - b;
                case TIMES: return a * b;
                default: return b == 0 ? 0 : a / b;
            }
        }
    }

    /** The DEALS of one TEXT, rising, each as DEALT. They rest on CHILDREN and the TEXT alone, and so are kept. */
    private static final class Dealings {
        // By CHILD those of a higher number that are bound to be with it, or away from it.
        final int[] with = new int[CHILDREN_MOST];
        final int[] away = new int[CHILDREN_MOST];
        int[] row = new int[1];
        int count;
        int text = NONE;

        void forget() {
            text = NONE;
        }

        void deal(Text laws, Children children, Judge judge) {
            bind(laws, children, judge);
            int over = over(laws, children, judge);
            int sets = 1 << children.count;
            if (row.length < sets) {
                row = new int[sets];
            }
            count = 0;
            for (int set = 0; set < sets; set++) {
                if (fits(set, laws, children) && count < row.length) {
                    row[count] = set & ~over;
                    count++;
                }
            }
        }

        private void bind(Text laws, Children children, Judge judge) {
            for (int one = 0; one < children.count; one++) {
                with[one] = 0;
                away[one] = 0;
                judge.see(children, one, 0);
                for (int other = one + 1; other < children.count; other++) {
                    judge.see(children, other, OF_OTHER);
                    with[one] |= judge.some(laws, TOGETHER) ? 1 << other : 0;
                    away[one] |= judge.some(laws, APART) ? 1 << other : 0;
                }
            }
        }

        private static int over(Text laws, Children children, Judge judge) {
            int over = 0;
            for (int one = 0; one < children.count; one++) {
                judge.see(children, one, 0);
                over |= judge.some(laws, OVER) ? 1 << one : 0;
            }
            return over;
        }

        private boolean fits(int set, Text laws, Children children) {
            if (laws.many != NONE && Integer.bitCount(set) != laws.many) {
                return false;
            }
            if (laws.near != NONE && unlikeness(set, children) > laws.near) {
                return false;
            }
            for (int one = 0; one < children.count; one++) {
                int side = (set >> one & 1) == 1 ? set : ~set;
                if ((with[one] & ~side) != 0 || (away[one] & side) != 0) {
                    return false;
                }
            }
            return true;
        }

        /** By how much the WIT of those in a set together is unlike that of the others. */
        private static int unlikeness(int set, Children children) {
            int sum = 0;
            for (int one = 0; one < children.count; one++) {
                sum += (set >> one & 1) == 1 ? children.wits[one] : -children.wits[one];
            }
            return Math.abs(sum);
        }
    }

    /** Sums the FOUND ANSWERS of a THING over any set of CHILDREN; a part is n << 16 | s of the document. */
    private static final class Tally {
        private static final int HALF = 7;
        private static final int HALF_BITS = (1 << HALF) - 1;
        private static final int SUM_BITS = (1 << 16) - 1;
        private static final int NEVER = 1 << 16;

        // The parts of all sets of the lower seven CHILDREN and of the upper seven: two looks make any sum.
        final int[] low = new int[1 << HALF];
        final int[] high = new int[1 << HALF];
        // By n the least s with which a DEAL is AS FAR.
        final int[] least = new int[16];
        int whole;

        void load(Things things, int thing, int among) {
            fill(low, things, thing, among, 0);
            fill(high, things, thing, among, HALF);
            whole = part(-1);
        }

        private static void fill(int[] parts, Things things, int thing, int among, int first) {
            for (int i = 0; i < HALF; i++) {
                int child = first + i;
                int value = (among >> child & 1) == 1 ? things.value(thing, child) : NONE;
                int own = value == NONE ? 0 : 1 << 16 | value;
                int sets = 1 << i;
                for (int set = 0; set < sets && sets + set < parts.length; set++) {
                    parts[sets + set] = parts[set] + own;
                }
            }
        }

        int part(int set) {
            return low[set & HALF_BITS] + high[set >> HALF & HALF_BITS];
        }

        /** The upper of D by a set: s m - r n, which is s (n + m) - (s + r) n. */
        int upper(int set) {
            int part = part(set);
            return (part & SUM_BITS) * (whole >> 16) - (whole & SUM_BITS) * (part >> 16);
        }

        /** The lower of D by a set; 0: there is no D. */
        int lower(int set) {
            int n = part(set) >> 16;
            return n * ((whole >> 16) - n);
        }

        int asFar(Dealings dealings, int had) {
            int lower = lower(had);
            if (lower == 0 || dealings.count == 0) {
                return NONE;
            }
            setLeast(upper(had), lower);
            int far = 0;
            for (int i = 0; i < dealings.count && i < dealings.row.length; i++) {
                int part = part(dealings.row[i]);
                if ((part & SUM_BITS) >= least[part >> 16 & 15]) {
                    far++;
                }
            }
            return far;
        }

        /** From (s all - sum n) / (n m) >= upper / lower: the least s of each n, so that no deal needs a product. */
        private void setLeast(int upper, int lower) {
            int all = whole >> 16;
            int sum = whole & SUM_BITS;
            Arrays.fill(least, NEVER);
            for (int n = 1; n < all && n < least.length; n++) {
                int needed = upper * n * (all - n) + sum * n * lower;
                int divisor = all * lower;
                if (divisor > 0) {
                    least[n] = -Math.floorDiv(-needed, divisor);
                }
            }
        }
    }

    private static final class Links {
        final int[] froms = new int[LINKS_MOST];
        final int[] tos = new int[LINKS_MOST];
        // By THING how many rows of so many LINKS come to it.
        int[] now = new int[THINGS_MOST];
        int[] next = new int[THINGS_MOST];
        int count;
        int fewest;
        int ways;

        int add(int from, int to) {
            if (count >= LINKS_MOST) {
                return NONE;
            }
            for (int i = 0; i < count; i++) {
                if (froms[i] == from && tos[i] == to) {
                    return NONE;
                }
            }
            froms[count] = from;
            tos[count] = to;
            count++;
            return count;
        }

        /** Counts the rows of LINKS from one to another, the shorter first; AGES rise along them, so they end. */
        void walk(int from, int to) {
            fewest = NONE;
            ways = 0;
            Arrays.fill(now, 0);
            if (from < 0 || from >= now.length || to < 0 || to >= now.length) {
                return;
            }
            now[from] = 1;
            for (int many = 0; many < THINGS_MOST; many++) {
                ways += now[to];
                fewest = fewest == NONE && now[to] > 0 ? many : fewest;
                goOn();
            }
        }

        private void goOn() {
            Arrays.fill(next, 0);
            for (int i = 0; i < count; i++) {
                int from = froms[i];
                int to = tos[i];
                if (from >= 0 && from < now.length && to >= 0 && to < next.length) {
                    next[to] += now[from];
                }
            }
            int[] spare = now;
            now = next;
            next = spare;
        }
    }

    private static final class Land {
        final int[] lows = new int[STEPS_MOST];
        final int[] highs = new int[STEPS_MOST];
        int count;

        int add(int low, int high) {
            if (count >= STEPS_MOST) {
                return NONE;
            }
            lows[count] = low;
            highs[count] = high;
            count++;
            return count;
        }

        int through(int d, boolean most) {
            long least = d;
            long greatest = d;
            for (int i = 0; i < count; i++) {
                long a = least * lows[i] / 100;
                long b = least * highs[i] / 100;
                long c = greatest * lows[i] / 100;
                long e = greatest * highs[i] / 100;
                least = Math.min(Math.min(a, b), Math.min(c, e));
                greatest = Math.max(Math.max(a, b), Math.max(c, e));
            }
            return (int) (most ? greatest : least);
        }
    }

    /** What is needed to make all as it was once. */
    private static final class Image {
        final int[] answers = new int[THINGS_MOST * CHILDREN_MOST];
        int children;
        int coins;
        int had;
        int things;
        int texts;
        int links;
        int steps;
        int cost = COST_FIRST;

        Image() {
            Arrays.fill(answers, NONE);
        }
    }
}
