/**
 * A board with cheese in cubes, and the customers who come by, eat and perhaps buy.
 * Refusals are told by the numbers that the document lays down; no call throws.
 */
public final class OneCubeEach {
    public static final int NONE = -1, BAD = -2, STATE = -3, FULL = -4;
    public static final long NO = -4611686018427387904L;

    private static final int NO_SUCH = -100000000;
    private static final int FAULTY = -100;
    private static final int NOTHING = -11, OUTSIDE = -12, UNLIKE = -13, TOO_SMALL = -14;

    private static final int HOURS = 10, MOST_HOURS = 1023, LEAST_CUBE = 1, MOST_CUBE = 40;
    private static final int LEAST_SORTS = 1, MOST_SORTS = 6, MOST_NUMBER = 9;
    private static final int MOST_CUSTOMERS = 8, MOST_BOUGHT = 999, MOST_SPENT = 999;
    private static final int MOST_TOLD = 99, MOST_SEEDS = 20, MOST_WANTED = 9999;
    private static final int SHEETS = 4, MOST_CELLS = 40;

    private static final int CUBE = 0, SORTS = 1, GIRL = 2, OPEN = 3, GRAM = 4;
    private static final int NUMBER = 5, HOUR = 6, HUNGER = 7, KIND = 8, BOUGHT = 9;
    private static final int[] LEAST_SET = {1, 1, 0, 0, 0, 0, 0, 0};
    private static final int[] MOST_SET = {40, 6, 1, 1023, 99, 9, 9, 99};

    private static final int CHILD = 1, PENSIONER = 2, HUNGRY = 3, WIDOW = 4, GOURMET = 5;
    private static final int[] UNDER = {-1, 0, 0, 1, 2, 0};

    private static final int BYTES = 0, SHORTS = 1, INTS = 2;

    private static final int[] LEAST_TOLD_OF = {0, 0, 0, 0, 0, 0, 1, 0};
    private static final int[] MOST_TOLD_OF = {0, 5, 9, 99, 99, 9, 6, 5};
    private static final int TOLD_HOW_MANY = 3, TOLD_LEAST = 4, TOLD_TEXTS = 7;

    private static final int MOST_TEXTS = 6, MOST_LETTERS = 160, MOST_DIGITS = 4;
    private static final int PARTS = 3, EATS = 0, ODDS = 1, SPENDS = 2;
    private static final String FIRST_RULE = "eats 1 + hunger < 20 ; odds 6 - girl ; spends 30 ;";

    // Tokens and the steps of a text share these numbers; a NUMBER n is PLAIN + n.
    private static final int HOUR_NAME = 0, HUNGER_NAME = 1, NUMBER_NAME = 2;
    private static final int GIRL_NAME = 3, CUBE_NAME = 4, SORTS_NAME = 5;
    private static final int EATS_KEY = 6, ODDS_KEY = 7, SPENDS_KEY = 8;
    private static final int OR = 9, AND = 10, NOT = 11, WORDS = 12;
    private static final int OPENING = 12, CLOSING = 13, STOP = 14, PLUS = 15;
    private static final int MINUS = 16, TIMES = 17, LESS = 18, LIKE = 19;
    private static final String SIGNS = "();+-*<=";
    private static final int NEGATE = 20, END = 21, BROKEN = 22, PLAIN = 100;

    private final Stall now = new Stall();
    private final Stall thought = new Stall();
    private final Stall kept = new Stall();
    private boolean anyKept = false;
    private final Tape tape = new Tape();
    private final Reader reader = new Reader();
    private final Texts texts = new Texts();
    private final Reckoning reckoning = new Reckoning(texts);
    private final Best best = new Best();
    private final Fraction line = new Fraction();
    private final Sheet[] sheets = new Sheet[SHEETS];

    public OneCubeEach() {
        for (int i = 0; i < SHEETS; i++) {
            sheets[i] = new Sheet();
        }
        for (int i = 0; i < FIRST_RULE.length(); i++) {
            tape.take(FIRST_RULE.charAt(i));
        }
        text();
    }

    // ---- the board, customers

    public int set(int what, int of, int v) {
        if (what < CUBE || what > HUNGER || !isWithin(v, LEAST_SET[what], MOST_SET[what])) {
            return BAD;
        }
        if (what <= GRAM) {
            int was = now.reading(what);
            now.lay(what, v);
            return was;
        }
        if (!now.has(of)) {
            return BAD;
        }
        int was = now.customers[of].reading(what);
        now.customers[of].lay(what, v);
        return was;
    }

    public int customer(int kind, int number, int hour) {
        if (!isWithin(kind, 0, GOURMET) || !isWithin(number, 0, MOST_NUMBER) || !isHour(hour)) {
            return BAD;
        }
        if (now.size >= MOST_CUSTOMERS) {
            return FULL;
        }
        now.customers[now.size].come(kind, number, hour);
        now.size++;
        return now.size - 1;
    }

    public int told(int of, int what) {
        if (what >= CUBE && what <= GRAM) {
            return now.reading(what);
        }
        if (!now.has(of)) {
            return NO_SUCH;
        }
        Customer one = now.customers[of];
        if (what >= NUMBER && what <= BOUGHT) {
            return one.reading(what);
        }
        switch (what) {
            case 10: return reckoning.eatsOf(now, one);
            case 11: return reckoning.triesOf(now, one);
            case 12: return reckoning.spendsOf(now, one);
            case 13: return now.isThere(one) ? 1 : 0;
            case 14: return reckoning.costOf(now, one);
            case 15: return reckoning.gainOf(now, one);
            default: return NO_SUCH;
        }
    }

    // ---- texts

    public int feed(int letter) {
        if (!isWithin(letter, 0, 255)) {
            return BAD;
        }
        return tape.take(letter) ? tape.size : FULL;
    }

    public int text() {
        if (texts.size >= MOST_TEXTS) {
            return FULL;
        }
        int fault = reader.read(tape, texts.rows[texts.size]);
        tape.size = 0;
        if (fault != NONE) {
            return FAULTY - fault;
        }
        texts.size++;
        return texts.size - 1;
    }

    public int force(int text) {
        if (!texts.has(text)) {
            return BAD;
        }
        int was = now.rule;
        now.rule = text;
        return was;
    }

    // ---- what it comes to

    public int board(int what) {
        switch (what) {
            case 0: return reckoning.allGainOf(now);
            case 1: return reckoning.allEatenOf(now);
            case 2: return reckoning.allCostOf(now);
            case 3: return reckoning.onlyEatersOf(now);
            case 4: return crowdedHour();
            case 5: return now.thereAmong(MOST_HOURS);
            default: return NO_SUCH;
        }
    }

    public long fair(int part) {
        if (!isZeroOrOne(part)) {
            return NO;
        }
        line.lay(0, 1);
        for (int i = 0; i < now.size && i < MOST_CUSTOMERS; i++) {
            Customer one = now.customers[i];
            int tries = reckoning.triesIfThere(now, one);
            if (tries > 0) {
                line.plus(reckoning.spendsOf(now, one), tries);
            }
        }
        return line.part(part);
    }

    public long buysOne(int part) {
        if (!isZeroOrOne(part)) {
            return NO;
        }
        line.lay(1, 1);
        for (int i = 0; i < now.size && i < MOST_CUSTOMERS; i++) {
            int tries = reckoning.triesIfThere(now, now.customers[i]);
            if (tries > 0) {
                line.times(tries - 1, tries);
            }
        }
        line.lay(line.below - line.above, line.below);
        return line.part(part);
    }

    public int hour(int hour, int what) {
        if (!isHour(hour) || !isZeroOrOne(what)) {
            return BAD;
        }
        return what == 0 ? reckoning.eatenIn(now, hour) : now.thereAmong(1 << hour);
    }

    private int crowdedHour() {
        best.beginWith(NONE, 0);
        for (int hour = 0; hour < HOURS; hour++) {
            best.offer(hour, reckoning.eatenIn(now, hour));
        }
        return best.found;
    }

    // ---- what would be best

    public int cubes(int what) {
        return isZeroOrOne(what) ? bestOf(CUBE, LEAST_CUBE, MOST_CUBE, what) : NO_SUCH;
    }

    public int shelf(int what) {
        return isZeroOrOne(what) ? bestOf(SORTS, LEAST_SORTS, MOST_SORTS, what) : NO_SUCH;
    }

    public int apron(int what) {
        return isZeroOrOne(what) ? bestOf(GIRL, 0, 1, what) : NO_SUCH;
    }

    public int stand(int n, int what) {
        if (!isWithin(n, 0, HOURS) || !isZeroOrOne(what)) {
            return NO_SUCH;
        }
        thought.become(now);
        best.begin();
        for (int from = 0; from <= HOURS - n; from++) {
            thought.open = ((1 << n) - 1) << from;
            best.offer(from, reckoning.allGainOf(thought));
        }
        return best.answer(what);
    }

    public int setting(int what) {
        if (!isZeroOrOne(what)) {
            return NO_SUCH;
        }
        thought.become(now);
        best.begin();
        for (int cube = LEAST_CUBE; cube <= MOST_CUBE; cube++) {
            thought.cube = cube;
            for (int sorts = LEAST_SORTS; sorts <= MOST_SORTS; sorts++) {
                thought.sorts = sorts;
                for (int girl = 0; girl <= 1; girl++) {
                    thought.girl = girl;
                    best.offer(100 * cube + 10 * sorts + girl, reckoning.allGainOf(thought));
                }
            }
        }
        return best.answer(what);
    }

    public int sendAway(int what) {
        if (!isZeroOrOne(what)) {
            return NO_SUCH;
        }
        int all = reckoning.allGainOf(now);
        best.beginWith(NONE, all);
        for (int i = 0; i < now.size && i < MOST_CUSTOMERS; i++) {
            best.offer(i, all - reckoning.gainOf(now, now.customers[i]));
        }
        return best.answer(what);
    }

    public int lost(int customer) {
        if (!now.has(customer)) {
            return BAD;
        }
        thought.become(now);
        int least = NONE;
        for (int cube = MOST_CUBE; cube >= LEAST_CUBE; cube--) {
            thought.cube = cube;
            if (reckoning.gainOf(thought, thought.customers[customer]) >= 0) {
                return least;
            }
            least = cube;
        }
        return least;
    }

    private int bestOf(int setting, int from, int to, int what) {
        thought.become(now);
        best.begin();
        for (int v = from; v <= to; v++) {
            thought.lay(setting, v);
            best.offer(v, reckoning.allGainOf(thought));
        }
        return best.answer(what);
    }

    // ---- eating that was told

    public int tells(int sheet, int customer, int what) {
        if (!isSheet(sheet) || !now.has(customer) || !isWithin(what, 0, TOLD_TEXTS)) {
            return BAD;
        }
        Sheet row = sheets[sheet];
        if (row.isMissing()) {
            return NOTHING;
        }
        thought.become(now);
        Customer one = thought.customers[customer];
        return what == 0 ? firstOtherwise(row, one) : allBy(row, one, what);
    }

    public int film(int sheet, int customer, int n) {
        if (!isSheet(sheet) || !now.has(customer) || !isWithin(n, 0, MOST_CELLS)) {
            return BAD;
        }
        thought.become(now);
        sheets[sheet].become(BYTES, n);
        for (int i = 0; i < n; i++) {
            thought.cube = i + 1;
            sheets[sheet].put(i, reckoning.eatsOf(thought, thought.customers[customer]));
        }
        return n;
    }

    public int sell(int seed) {
        return reckoning.drawn(now, seed, true);
    }

    public long chance(int seed, int m, int k, int part) {
        if (!isWithin(m, 1, MOST_SEEDS) || !isWithin(k, 0, MOST_WANTED) || !isZeroOrOne(part)) {
            return NO;
        }
        int enough = 0;
        for (int i = 0; i < m; i++) {
            if (reckoning.drawn(now, seed + i, false) >= k) {
                enough++;
            }
        }
        line.lay(enough, m);
        return line.part(part);
    }

    public int image() {
        kept.become(now);
        anyKept = true;
        return kept.size;
    }

    public int back() {
        if (!anyKept) {
            return STATE;
        }
        now.become(kept);
        return now.size;
    }

    public int count(int what) {
        switch (what) {
            case 0: return now.size;
            case 1: return Integer.bitCount(now.open);
            case 2: return now.boughtByAll();
            case 3: return texts.size;
            case 4: return tape.size;
            case 5: return now.rule;
            default: return BAD;
        }
    }

    /** The first cell in which one, as thought of, would eat otherwise. */
    private int firstOtherwise(Sheet row, Customer one) {
        for (int i = 0; i < row.size && i < MOST_CELLS; i++) {
            thought.cube = i + 1;
            if (reckoning.eatsOf(thought, one) != row.cells[i]) {
                return i;
            }
        }
        return NONE;
    }

    private int allBy(Sheet row, Customer one, int what) {
        int bits = 0;
        int many = 0;
        int least = NONE;
        int last = what == TOLD_TEXTS ? texts.size - 1 : MOST_TOLD_OF[what];
        for (int v = LEAST_TOLD_OF[what]; v <= last; v++) {
            suppose(one, what, v);
            if (firstOtherwise(row, one) == NONE) {
                bits |= 1 << v;
                least = many == 0 ? v : least;
                many++;
            }
        }
        if (what == TOLD_HOW_MANY) {
            return many;
        }
        return what == TOLD_LEAST ? least : bits;
    }

    private void suppose(Customer one, int what, int v) {
        switch (what) {
            case 1: one.kind = v; break;
            case 2: one.number = v; break;
            case TOLD_HOW_MANY:
            case TOLD_LEAST: one.hunger = v; break;
            case 5: one.hour = v; break;
            case 6: thought.sorts = v; break;
            case TOLD_TEXTS: thought.rule = v; break;
            default: break;
        }
    }

    // ---- the host

    public int sheet(int sheet, int sort, int n) {
        if (!isSheet(sheet) || !isWithin(sort, NONE, INTS)) {
            return BAD;
        }
        if (sort == NONE) {
            sheets[sheet].become(NONE, 0);
            return 1;
        }
        if (n > MOST_CELLS) {
            return BAD;
        }
        if (n < 0) {
            return TOO_SMALL;
        }
        sheets[sheet].become(sort, n);
        return 1;
    }

    public int cell(int sheet, int i, int v) {
        if (!isSheet(sheet)) {
            return BAD;
        }
        Sheet row = sheets[sheet];
        if (row.isMissing()) {
            return NOTHING;
        }
        if (!row.holds(i, 1)) {
            return OUTSIDE;
        }
        row.put(i, v);
        return 1;
    }

    public int copy(int sheet, int i, int other, int j, int n) {
        if (!isSheet(sheet) || !isSheet(other)) {
            return BAD;
        }
        Sheet from = sheets[sheet];
        Sheet to = sheets[other];
        if (from.isMissing() || to.isMissing()) {
            return NOTHING;
        }
        if (from.sort != to.sort) {
            return UNLIKE;
        }
        if (!from.holds(i, n) || !to.holds(j, n)) {
            return OUTSIDE;
        }
        System.arraycopy(from.cells, i, to.cells, j, n);
        return n;
    }

    public int customers(int sheet, int sort, int from, int n) {
        if (!isSheet(sheet) || !isWithin(sort, BYTES, INTS) || !isWithin(n, 0, MOST_CUSTOMERS)) {
            return BAD;
        }
        Sheet row = sheets[sheet];
        if (!row.isMissing() && row.sort != sort) {
            return UNLIKE;
        }
        if (row.isMissing()) {
            return NOTHING;
        }
        int came = 0;
        int at = from;
        for (int i = 0; i < n; i++) {
            if (!row.holds(at, 3)) {
                return OUTSIDE;
            }
            if (customer(row.cells[at], row.cells[at + 1], row.cells[at + 2]) >= 0) {
                came++;
            }
            at += 3;
        }
        return came;
    }

    public int taken(int customer, int k) {
        if (!isWithin(k, 0, GOURMET)) {
            return BAD;
        }
        if (!now.has(customer)) {
            return NOTHING;
        }
        Customer one = now.customers[customer];
        return isUnder(one.kind, k) ? one.number : UNLIKE;
    }

    private static boolean isUnder(int kind, int k) {
        int above = kind;
        for (int step = 0; step < UNDER.length && above >= 0 && above < UNDER.length; step++) {
            if (above == k) {
                return true;
            }
            above = UNDER[above];
        }
        return false;
    }

    private static boolean isWithin(int v, int least, int most) {
        return v >= least && v <= most;
    }

    private static boolean isZeroOrOne(int v) {
        return v == 0 || v == 1;
    }

    private static boolean isHour(int hour) {
        return hour >= 0 && hour < HOURS;
    }

    private static boolean isSheet(int sheet) {
        return sheet >= 0 && sheet < SHEETS;
    }

    private static int bounded(int v, int most) {
        return Math.max(0, Math.min(v, most));
    }

    private static final class Customer {
        int kind;
        int number;
        int hour;
        int hunger;
        int bought;

        void come(int itsKind, int itsNumber, int itsHour) {
            kind = itsKind;
            number = itsNumber;
            hour = itsHour;
            hunger = 20;
            bought = 0;
        }

        void become(Customer other) {
            kind = other.kind;
            number = other.number;
            hour = other.hour;
            hunger = other.hunger;
            bought = other.bought;
        }

        int reading(int what) {
            switch (what) {
                case NUMBER: return number;
                case HOUR: return hour;
                case HUNGER: return hunger;
                case KIND: return kind;
                default: return bought;
            }
        }

        void lay(int what, int v) {
            switch (what) {
                case NUMBER: number = v; break;
                case HOUR: hour = v; break;
                case HUNGER: hunger = v; break;
                default: break;
            }
        }
    }

    /** All that an image keeps; thoughts of what would be are tried on one as well. */
    private static final class Stall {
        int cube = 10;
        int sorts = 4;
        int girl = 1;
        int open = MOST_HOURS;
        int gram = 2;
        int rule = 0;
        int size = 0;
        final Customer[] customers = new Customer[MOST_CUSTOMERS];

        Stall() {
            for (int i = 0; i < MOST_CUSTOMERS; i++) {
                customers[i] = new Customer();
            }
        }

        void become(Stall other) {
            cube = other.cube;
            sorts = other.sorts;
            girl = other.girl;
            open = other.open;
            gram = other.gram;
            rule = other.rule;
            size = other.size;
            for (int i = 0; i < size && i < MOST_CUSTOMERS; i++) {
                customers[i].become(other.customers[i]);
            }
        }

        boolean has(int customer) {
            return customer >= 0 && customer < size && customer < MOST_CUSTOMERS;
        }

        boolean isThere(Customer one) {
            return ((open >> one.hour) & 1) == 1;
        }

        int thereAmong(int hours) {
            int bits = 0;
            for (int i = 0; i < size && i < MOST_CUSTOMERS; i++) {
                if (isThere(customers[i]) && ((hours >> customers[i].hour) & 1) == 1) {
                    bits |= 1 << i;
                }
            }
            return bits;
        }

        int boughtByAll() {
            int all = 0;
            for (int i = 0; i < size && i < MOST_CUSTOMERS; i++) {
                all += customers[i].bought;
            }
            return all;
        }

        int reading(int what) {
            switch (what) {
                case CUBE: return cube;
                case SORTS: return sorts;
                case GIRL: return girl;
                case OPEN: return open;
                default: return gram;
            }
        }

        void lay(int what, int v) {
            switch (what) {
                case CUBE: cube = v; break;
                case SORTS: sorts = v; break;
                case GIRL: girl = v; break;
                case OPEN: open = v; break;
                case GRAM: gram = v; break;
                default: break;
            }
        }
    }

    /** What customers eat, cost and bring, on the board as it is or as it is thought of. */
    private static final class Reckoning {
        final Texts texts;

        Reckoning(Texts itsTexts) {
            texts = itsTexts;
        }

        int eatsOf(Stall stall, Customer one) {
            if (one.kind == WIDOW && stall.girl == 1) {
                return 1;
            }
            int v = texts.ruleOf(stall).tell(EATS, stall, one);
            switch (one.kind) {
                case CHILD: return bounded(2 * v, MOST_TOLD);
                case PENSIONER:
                case WIDOW: return bounded(Math.min(v, stall.sorts), MOST_TOLD);
                case HUNGRY: return bounded(2 * v + one.hunger / 10, MOST_TOLD);
                case GOURMET: return bounded(Math.min(v, 1), MOST_TOLD);
                default: return v;
            }
        }

        int triesOf(Stall stall, Customer one) {
            if (one.kind == CHILD || one.kind == WIDOW) {
                return 0;
            }
            if (one.kind == GOURMET && stall.sorts > 3) {
                return 1;
            }
            int v = texts.ruleOf(stall).tell(ODDS, stall, one);
            switch (one.kind) {
                case PENSIONER: return bounded(2 * v, MOST_TOLD);
                case HUNGRY: return bounded(v + one.number, MOST_TOLD);
                default: return v;
            }
        }

        int spendsOf(Stall stall, Customer one) {
            if (one.kind == CHILD) {
                return 0;
            }
            if (one.kind == HUNGRY) {
                return 3;
            }
            int v = texts.ruleOf(stall).tell(SPENDS, stall, one);
            switch (one.kind) {
                case PENSIONER:
                case WIDOW: return bounded(v / 2, MOST_SPENT);
                case GOURMET: return bounded(v + 10 * one.number, MOST_SPENT);
                default: return v;
            }
        }

        int eatenBy(Stall stall, Customer one) {
            return stall.isThere(one) ? eatsOf(stall, one) : 0;
        }

        int triesIfThere(Stall stall, Customer one) {
            return stall.isThere(one) ? triesOf(stall, one) : 0;
        }

        int costOf(Stall stall, Customer one) {
            return priceOf(stall, eatenBy(stall, one));
        }

        int gainOf(Stall stall, Customer one) {
            if (!stall.isThere(one)) {
                return 0;
            }
            int tries = triesOf(stall, one);
            int brings = tries > 0 ? spendsOf(stall, one) * 1000 / tries : 0;
            return brings - 1000 * priceOf(stall, eatsOf(stall, one));
        }

        private static int priceOf(Stall stall, int cubes) {
            return cubes * stall.cube * stall.gram / 10;
        }

        int allGainOf(Stall stall) {
            int all = 0;
            for (int i = 0; i < stall.size && i < MOST_CUSTOMERS; i++) {
                all += gainOf(stall, stall.customers[i]);
            }
            return all;
        }

        int allCostOf(Stall stall) {
            int all = 0;
            for (int i = 0; i < stall.size && i < MOST_CUSTOMERS; i++) {
                all += costOf(stall, stall.customers[i]);
            }
            return all;
        }

        int allEatenOf(Stall stall) {
            int all = 0;
            for (int i = 0; i < stall.size && i < MOST_CUSTOMERS; i++) {
                all += eatenBy(stall, stall.customers[i]);
            }
            return all;
        }

        int eatenIn(Stall stall, int hour) {
            int all = 0;
            for (int i = 0; i < stall.size && i < MOST_CUSTOMERS; i++) {
                if (stall.customers[i].hour == hour) {
                    all += eatenBy(stall, stall.customers[i]);
                }
            }
            return all;
        }

        int onlyEatersOf(Stall stall) {
            int bits = 0;
            for (int i = 0; i < stall.size && i < MOST_CUSTOMERS; i++) {
                Customer one = stall.customers[i];
                if (eatenBy(stall, one) > 0 && triesOf(stall, one) == 0) {
                    bits |= 1 << i;
                }
            }
            return bits;
        }

        /** What all spend; one who never buys has a draw all the same. */
        int drawn(Stall stall, int seed, boolean truly) {
            int z = seed;
            int all = 0;
            for (int i = 0; i < stall.size && i < MOST_CUSTOMERS; i++) {
                Customer one = stall.customers[i];
                if (stall.isThere(one)) {
                    z = z * 1103515245 + 12345;
                    int tries = triesOf(stall, one);
                    if (tries > 0 && (z >>> 9) % tries == 0) {
                        all += spendsOf(stall, one);
                        if (truly) {
                            one.bought = Math.min(one.bought + 1, MOST_BOUGHT);
                        }
                    }
                }
            }
            return all;
        }
    }

    /** The most that was offered, and the first by which it is. */
    private static final class Best {
        int found;
        int most;
        boolean any;

        void begin() {
            any = false;
            found = NONE;
            most = 0;
        }

        void beginWith(int itsFound, int itsMost) {
            any = true;
            found = itsFound;
            most = itsMost;
        }

        void offer(int candidate, int worth) {
            if (!any || worth > most) {
                beginWith(candidate, worth);
            }
        }

        int answer(int what) {
            return what == 0 ? found : most;
        }
    }

    /** In lowest terms after each step: eight factors below a hundred stay within a long. */
    private static final class Fraction {
        long above = 0;
        long below = 1;

        void lay(long itsAbove, long itsBelow) {
            long common = commonOf(itsAbove, itsBelow);
            above = common > 0 ? itsAbove / common : itsAbove;
            below = common > 0 ? itsBelow / common : itsBelow;
        }

        void plus(long otherAbove, long otherBelow) {
            lay(above * otherBelow + otherAbove * below, below * otherBelow);
        }

        void times(long otherAbove, long otherBelow) {
            lay(above * otherAbove, below * otherBelow);
        }

        long part(int which) {
            return which == 0 ? above : below;
        }

        private static long commonOf(long a, long b) {
            long greater = a;
            long less = b;
            for (int turn = 0; turn < 200 && less != 0; turn++) {
                long rest = greater % less;
                greater = less;
                less = rest;
            }
            return greater;
        }
    }

    private static final class Sheet {
        int sort = NONE;
        int size = 0;
        final int[] cells = new int[MOST_CELLS];

        boolean isMissing() {
            return sort == NONE;
        }

        /** Asks by a difference, as i + n might wrap around. */
        boolean holds(int i, int n) {
            return n >= 0 && i >= 0 && i <= size && n <= size - i;
        }

        void become(int itsSort, int n) {
            sort = itsSort;
            size = bounded(n, MOST_CELLS);
            for (int i = 0; i < MOST_CELLS; i++) {
                cells[i] = 0;
            }
        }

        void put(int i, int v) {
            if (!holds(i, 1)) {
                return;
            }
            if (sort == BYTES) {
                cells[i] = (byte) v;
            } else if (sort == SHORTS) {
                cells[i] = (short) v;
            } else {
                cells[i] = v;
            }
        }
    }

    private static final class Tape {
        final int[] letters = new int[MOST_LETTERS];
        int size = 0;

        boolean take(int letter) {
            if (size < 0 || size >= MOST_LETTERS) {
                return false;
            }
            letters[size] = letter;
            size++;
            return true;
        }

        int letterAt(int place) {
            return place >= 0 && place < size && place < MOST_LETTERS ? letters[place] : NONE;
        }

        boolean isBlank(int place) {
            int letter = letterAt(place);
            return letter == 32 || letter == 10;
        }

        boolean isSmall(int place) {
            int letter = letterAt(place);
            return letter >= 'a' && letter <= 'z';
        }

        boolean isDigit(int place) {
            int letter = letterAt(place);
            return letter >= '0' && letter <= '9';
        }
    }

    /** A tape cut into tokens. What is no token is BROKEN, which can stand nowhere. */
    private static final class Tokens {
        final int[] tokens = new int[MOST_LETTERS + 1];
        final int[] places = new int[MOST_LETTERS + 1];
        int size = 0;

        void cut(Tape tape) {
            size = 0;
            int at = 0;
            for (int turn = 0; turn < MOST_LETTERS && at < tape.size; turn++) {
                int after = endOf(tape, at);
                if (!tape.isBlank(at)) {
                    put(tokenOf(tape, at, after), at);
                }
                at = after;
            }
            put(END, tape.size);
        }

        int tokenAt(int i) {
            return i >= 0 && i < size && i < tokens.length ? tokens[i] : END;
        }

        int placeAt(int i) {
            return i >= 0 && i < size && i < places.length ? places[i] : 0;
        }

        private void put(int token, int place) {
            if (size < tokens.length && size < places.length) {
                tokens[size] = token;
                places[size] = place;
                size++;
            }
        }

        private static int endOf(Tape tape, int at) {
            int after = at + 1;
            if (tape.isSmall(at)) {
                while (after < tape.size && tape.isSmall(after)) {
                    after++;
                }
            } else if (tape.isDigit(at)) {
                while (after < tape.size && tape.isDigit(after)) {
                    after++;
                }
            }
            return after;
        }

        private static int tokenOf(Tape tape, int from, int to) {
            if (tape.isSmall(from)) {
                return wordOf(tape, from, to);
            }
            if (tape.isDigit(from)) {
                return numberOf(tape, from, to);
            }
            int sign = SIGNS.indexOf((char) tape.letterAt(from));
            return sign >= 0 ? OPENING + sign : BROKEN;
        }

        private static int numberOf(Tape tape, int from, int to) {
            if (to - from > MOST_DIGITS) {
                return BROKEN;
            }
            int number = 0;
            for (int i = from; i < to; i++) {
                number = 10 * number + tape.letterAt(i) - '0';
            }
            return PLAIN + number;
        }

        private static int wordOf(Tape tape, int from, int to) {
            for (int word = 0; word < WORDS; word++) {
                if (isSpelt(spellingOf(word), tape, from, to)) {
                    return word;
                }
            }
            return BROKEN;
        }

        private static boolean isSpelt(String spelling, Tape tape, int from, int to) {
            if (spelling.length() != to - from) {
                return false;
            }
            for (int i = 0; i < spelling.length(); i++) {
                if (spelling.charAt(i) != tape.letterAt(from + i)) {
                    return false;
                }
            }
            return true;
        }

        private static String spellingOf(int word) {
            switch (word) {
                case HOUR_NAME: return "hour";
                case HUNGER_NAME: return "hunger";
                case NUMBER_NAME: return "number";
                case GIRL_NAME: return "girl";
                case CUBE_NAME: return "cube";
                case SORTS_NAME: return "sorts";
                case EATS_KEY: return "eats";
                case ODDS_KEY: return "odds";
                case SPENDS_KEY: return "spends";
                case OR: return "or";
                case AND: return "and";
                case NOT: return "not";
                default: return "";
            }
        }
    }

    /** Reads tokens by the grammar and leaves their steps, operands ahead, in a text. */
    private static final class Reader {
        static final int LOOSEST = 0, COMPARING = 2, TIGHTEST = 4, MOST_OPEN = 5;

        final Tokens tokens = new Tokens();
        int at = 0;
        int fault = NONE;

        /** The place of the fault, or NONE. */
        int read(Tape tape, Text text) {
            tokens.cut(tape);
            at = 0;
            fault = NONE;
            text.size = 0;
            for (int part = 0; part < PARTS; part++) {
                pass(EATS_KEY + part);
                readLevel(text, LOOSEST, 0);
                pass(STOP);
                text.endPart(part);
            }
            pass(END);
            return fault;
        }

        private void fail() {
            if (fault == NONE) {
                fault = tokens.placeAt(at);
            }
        }

        private void pass(int token) {
            if (fault == NONE && tokens.tokenAt(at) == token) {
                at++;
            } else {
                fail();
            }
        }

        private void readLevel(Text text, int level, int open) {
            if (level > TIGHTEST) {
                readOne(text, open);
                return;
            }
            if (level == COMPARING && tokens.tokenAt(at) == NOT) {
                readNot(text, open);
                return;
            }
            readLevel(text, level + 1, open);
            for (int turn = 0; turn < MOST_LETTERS && fault == NONE; turn++) {
                int joint = tokens.tokenAt(at);
                if (levelOf(joint) != level) {
                    return;
                }
                at++;
                readLevel(text, level + 1, open);
                text.add(joint);
                if (level == COMPARING) {
                    return;
                }
            }
        }

        private void readNot(Text text, int open) {
            if (fault != NONE || open >= MOST_OPEN) {
                fail();
                return;
            }
            at++;
            readLevel(text, COMPARING, open + 1);
            text.add(NOT);
        }

        private void readOne(Text text, int open) {
            int token = tokens.tokenAt(at);
            if (fault != NONE) {
                return;
            }
            if (token <= SORTS_NAME || token >= PLAIN) {
                at++;
                text.add(token);
            } else if (token == MINUS && open < MOST_OPEN) {
                at++;
                readOne(text, open + 1);
                text.add(NEGATE);
            } else if (token == OPENING && open < MOST_OPEN) {
                at++;
                readLevel(text, LOOSEST, open + 1);
                pass(CLOSING);
            } else {
                fail();
            }
        }

        private static int levelOf(int token) {
            switch (token) {
                case OR: return LOOSEST;
                case AND: return 1;
                case LESS:
                case LIKE: return COMPARING;
                case PLUS:
                case MINUS: return 3;
                case TIMES: return TIGHTEST;
                default: return NONE;
            }
        }
    }

    private static final class Texts {
        final Text[] rows = new Text[MOST_TEXTS];
        int size = 0;

        Texts() {
            for (int i = 0; i < MOST_TEXTS; i++) {
                rows[i] = new Text();
            }
        }

        boolean has(int text) {
            return text >= 0 && text < size && text < MOST_TEXTS;
        }

        Text ruleOf(Stall stall) {
            return has(stall.rule) ? rows[stall.rule] : rows[0];
        }
    }

    private static final class Text {
        // Five operands at most wait at each of six depths, one level of the grammar each.
        static final int MOST_WAITING = 40;

        final int[] steps = new int[MOST_LETTERS];
        final int[] ends = new int[PARTS];
        final int[] stack = new int[MOST_WAITING];
        int size = 0;

        void add(int step) {
            if (size < MOST_LETTERS) {
                steps[size] = step;
                size++;
            }
        }

        void endPart(int part) {
            if (part >= 0 && part < PARTS) {
                ends[part] = size;
            }
        }

        int tell(int part, Stall stall, Customer one) {
            if (part < 0 || part >= PARTS) {
                return 0;
            }
            int height = 0;
            for (int i = part == 0 ? 0 : ends[part - 1]; i < ends[part] && i < MOST_LETTERS; i++) {
                int step = steps[i];
                if (step <= SORTS_NAME || step >= PLAIN) {
                    if (height < MOST_WAITING) {
                        stack[height] = step >= PLAIN ? step - PLAIN : named(step, stall, one);
                        height++;
                    }
                } else if (step == NOT || step == NEGATE) {
                    if (height > 0) {
                        stack[height - 1] = turned(step, stack[height - 1]);
                    }
                } else if (height > 1) {
                    height--;
                    stack[height - 1] = joined(step, stack[height - 1], stack[height]);
                }
            }
            return bounded(stack[0], MOST_TOLD);
        }

        private static int named(int name, Stall stall, Customer one) {
            switch (name) {
                case HOUR_NAME: return one.hour;
                case HUNGER_NAME: return one.hunger;
                case NUMBER_NAME: return one.number;
                case GIRL_NAME: return stall.girl;
                case CUBE_NAME: return stall.cube;
                default: return stall.sorts;
            }
        }

        private static int turned(int step, int v) {
            if (step == NEGATE) {
                return -v;
            }
            return v == 0 ? 1 : 0;
        }

        private static int joined(int step, int a, int b) {
            switch (step) {
                case OR: return a != 0 || b != 0 ? 1 : 0;
                case AND: return a != 0 && b != 0 ? 1 : 0;
                case LESS: return a < b ? 1 : 0;
                case LIKE: return a == b ? 1 : 0;
                case PLUS: return a + b;
                case MINUS: return a - b;
                default: return a * b;
            }
        }
    }
}
