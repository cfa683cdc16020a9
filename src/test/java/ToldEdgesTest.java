/** The edges of eating that was told, of what is drawn and of the image (Terms; promises 19 to 25): by the document's words. */
public final class ToldEdgesTest {
    private static final int NONE = OneCubeEach.NONE;

    /** One of a KIND by a rule, NUMBER 4, HOUR 6, HUNGER 20. */
    private static OneCubeEach one(String eats, int kind) {
        OneCubeEach x = Due.by("eats " + eats + ";odds 2;spends 5;");
        x.customer(kind, 4, 6);
        return x;
    }

    private static void tells(Due due, String words, OneCubeEach x, int what, int cell, int want) {
        Due.row(x, 0, 2, cell);
        due.be(words + ", told " + cell, x.tells(0, 0, what), want);
    }

    private static void first(Due due) {
        for (int sort = 0; sort < 3; sort++) {
            OneCubeEach x = one("cube", 0);
            int[] row = new int[40];
            for (int i = 0; i < 40; i++) {
                row[i] = i + 1;
            }
            Due.row(x, 1, sort, row);
            due.be("by CUBE 1, 2, .. (40 at most): none is otherwise", x.tells(1, 0, 0), NONE);
            for (int at : new int[] {39, 38, 1, 0}) {
                x.cell(1, at, 0);
                due.be("the first (from 0) that is otherwise", x.tells(1, 0, 0), at);
            }
            x.cell(1, 0, 1);
            due.be("the first (from 0) that is otherwise, again", x.tells(1, 0, 0), 1);
            x.sheet(1, sort, 0);
            due.be("of no cells none is otherwise", x.tells(1, 0, 0), NONE);
            x.sheet(1, sort, 1);
            due.be("of one cell, 0", x.tells(1, 0, 0), 0);
            x.cell(1, 0, 1);
            due.be("of one cell", x.tells(1, 0, 0), NONE);
            x.set(0, 0, 33);
            due.be("by CUBE 1, whatever CUBE is", x.tells(1, 0, 0), NONE);
            x.set(3, 0, 0);
            due.be("THERE or not", x.tells(1, 0, 0), NONE);
        }
        OneCubeEach x = one("5", 0);
        for (int cell : new int[] {-5, 4, 6, 5 + 256, 5 + 65536, 5 - 256, Integer.MIN_VALUE + 5}) {
            tells(due, "an int, whole", x, 0, cell, 0);
        }
        tells(due, "an int, whole", x, 0, 5, NONE);
    }

    private static void kinds(Due due) {
        int[][] want = {{5, 1, 1}, {10, 2, 2}, {4, 4, 20}, {12, 8, 8}, {1, 48, 32}, {0, 0, 0}, {3, 0, 0}};
        for (int kind = 0; kind < 6; kind++) {
            OneCubeEach x = one("5", kind);
            for (int[] w : want) {
                x.set(2, 0, 1);
                tells(due, "KINDS (bits 0 .. 5), with the GIRL, of KIND " + kind, x, 1, w[0], w[1]);
                x.set(2, 0, 0);
                tells(due, "KINDS (bits 0 .. 5), without, of KIND " + kind, x, 1, w[0], w[2]);
            }
            due.be("in thought: the KIND", x.told(0, 8), kind);
        }
    }

    private static void numbersHoursSorts(Due due) {
        OneCubeEach n = one("number", 0);
        OneCubeEach h = one("hour", 0);
        OneCubeEach s = one("sorts", 0);
        for (int v = -1; v <= 11; v++) {
            tells(due, "NUMBERS (bits 0 .. 9)", n, 2, v, v >= 0 && v <= 9 ? 1 << v : 0);
            tells(due, "HOURS (bits 0 .. 9)", h, 5, v, v >= 0 && v <= 9 ? 1 << v : 0);
            tells(due, "SORTS (bits 1 .. 6)", s, 6, v, v >= 1 && v <= 6 ? 1 << v : 0);
        }
        tells(due, "NUMBERS, all", h, 2, 6, 1023);
        tells(due, "HOURS, all", n, 5, 4, 1023);
        tells(due, "SORTS, all", n, 6, 4, 126);
        tells(due, "NUMBERS, none", h, 2, 7, 0);
        due.be("in thought: the NUMBER", n.told(0, 5), 4);
        due.be("in thought: the HOUR", h.told(0, 6), 6);
        due.be("in thought: SORTS", s.told(0, 1), 4);
        OneCubeEach p = one("5", 2);
        int[] most = {0, 2, 4, 8, 16, 96, 0};
        for (int v = 0; v <= 6; v++) {
            tells(due, "SORTS of a PENSIONER", p, 6, v, most[v]);
        }
        OneCubeEach w = one("5", 4);
        tells(due, "SORTS of a WIDOW, with the GIRL", w, 6, 1, 126);
        w.set(2, 0, 0);
        tells(due, "SORTS of a WIDOW, without", w, 6, 1, 2);
    }

    private static void hunger(Due due) {
        OneCubeEach x = one("hunger", 0);
        for (int v : new int[] {0, 1, 50, 98, 99}) {
            tells(due, "HUNGER (of 0 .. 99: how many)", x, 3, v, 1);
            tells(due, "HUNGER (the least)", x, 4, v, v);
        }
        for (int v : new int[] {-1, 100, 101}) {
            tells(due, "HUNGER (of 0 .. 99: how many), none", x, 3, v, 0);
            tells(due, "HUNGER, NONE", x, 4, v, NONE);
        }
        Object[][] rows = {{"50<hunger", 1, 49, 51}, {"50<hunger", 0, 51, 0}, {"7", 7, 100, 0}, {"7", 8, 0, NONE},
            {"hunger=99", 1, 1, 99}, {"hunger=0", 1, 1, 0}, {"hunger=0", 0, 99, 1}, {"99<hunger", 1, 0, NONE}};
        for (Object[] row : rows) {
            OneCubeEach y = one((String) row[0], 0);
            tells(due, "HUNGER: how many, by " + row[0], y, 3, (Integer) row[1], (Integer) row[2]);
            tells(due, "HUNGER: the least, by " + row[0], y, 4, (Integer) row[1], (Integer) row[3]);
            due.be("in thought: HUNGER", y.told(0, 7), 20);
        }
        OneCubeEach z = one("0", 3);
        int[][] hungry = {{0, 10, 0}, {9, 10, 90}, {10, 0, NONE}};
        for (int[] row : hungry) {
            tells(due, "HUNGER of a HUNGRY: how many", z, 3, row[0], row[1]);
            tells(due, "HUNGER of a HUNGRY: the least", z, 4, row[0], row[2]);
        }
    }

    private static void texts(Due due) {
        OneCubeEach x = new OneCubeEach();
        x.customer(0, 4, 6);
        tells(due, "TEXTS, TEXT 0 alone", x, 7, 0, 1);
        tells(due, "TEXTS, none", x, 7, 1, 0);
        for (int i = 1; i < 6; i++) {
            Due.read(x, "eats " + (i + 1) / 2 + ";odds 1;spends 1;");
        }
        int[] want = {1, 6, 24, 32, 0};
        for (int v = 0; v < 5; v++) {
            tells(due, "TEXTS (bits), were they THE RULE", x, 7, v, want[v]);
        }
        due.be("in thought: THE RULE", x.count(5), 0);
        x.sheet(0, 0, 0);
        int[] all = {NONE, 63, 1023, 100, 0, 1023, 126, 63};
        for (int what = 0; what < 8; what++) {
            due.be("by which all would be so, of nothing told: " + what, x.tells(0, 0, what), all[what]);
        }
    }

    /** Two cells by which none of what is asked for alone would do. */
    private static void allCells(Due due) {
        OneCubeEach x = one("number+(cube<2)", 0);
        Due.row(x, 0, 0, 5, 4);
        int[] as = {NONE, 1, 16, 100, 0, 1023, 126, 2};
        Due.row(x, 1, 0, 5, 5);
        int[] not = {1, 0, 0, 0, NONE, 0, 0, 0};
        Due.row(x, 2, 0, 6, 4);
        int[] nor = {0, 0, 0, 0, NONE, 0, 0, 0};
        for (int what = 0; what < 8; what++) {
            due.be("by which all would be so: " + what, x.tells(0, 0, what), as[what]);
            due.be("by which all would be so, the last is otherwise: " + what, x.tells(1, 0, what), not[what]);
            due.be("by which all would be so, the first is otherwise: " + what, x.tells(2, 0, what), nor[what]);
        }
        for (int i = 1; i < 8; i++) {
            x.customer(0, i, 0);
        }
        Due.row(x, 3, 0, 8, 7);
        due.be("TOLD of the eighth", x.tells(3, 7, 0), NONE);
        due.be("TOLD of the seventh", x.tells(3, 6, 0), 0);
        due.be("BAD: a ninth", x.tells(3, 8, 0), OneCubeEach.BAD);
    }

    private static void film(Due due) {
        OneCubeEach x = one("cube*3", 0);
        due.be("40, of a missing SHEET", x.film(3, 0, 40), 40);
        due.be("n items", x.copy(3, 40, 3, 40, 0), 0);
        due.be("n items, no more", x.copy(3, 41, 3, 41, 0), -12);
        due.be("truly", x.tells(3, 0, 0), NONE);
        x.set(3, 0, 0);
        Due.row(x, 0, 0, 3, 6, 9, 12, 15);
        due.be("not THERE", x.film(1, 0, 5), 5);
        due.be("as told by hand", x.tells(0, 0, 0), NONE);
        due.be("as told by film", x.tells(1, 0, 0), NONE);
        Due.row(x, 2, 2, 1, 2, 3, 4, 5, 6, 7);
        due.be("an int SHEET before", x.film(2, 0, 2), 2);
        due.be("bytes", x.customers(2, 0, 0, 0), 0);
        due.be("bytes, no ints", x.customers(2, 2, 0, 0), -13);
        due.be("n items alone", x.cell(2, 2, 0), -12);
        due.be("0 items", x.film(2, 0, 0), 0);
        due.be("0 items: nothing in it", x.cell(2, 0, 0), -12);
        due.be("0 items: not missing", x.customers(2, 0, 0, 0), 0);
        due.be("CUBE is as it was", x.told(0, 0), 10);
        OneCubeEach y = Due.by("eats cube*3;odds 1;spends 1;");
        y.customer(0, 0, 0);
        y.film(0, 0, 40);
        y.sheet(1, 0, 1);
        y.set(7, 0, 99);
        int[][] cells = {{0, 3}, {31, 96}, {32, 99}, {33, 99}, {39, 99}};
        Due.read(y, "eats hunger;odds 1;spends 1;");
        y.force(2);
        for (int[] c : cells) {
            y.copy(0, c[0], 1, 0, 1);
            due.be("how many one EATS, 99 at most: item " + c[0], y.tells(1, 0, 4), c[1]);
        }
        for (int n : new int[] {-1, 41, Integer.MIN_VALUE, Integer.MAX_VALUE}) {
            due.be("BAD: n " + n, y.film(0, 0, n), OneCubeEach.BAD);
        }
        for (int i : new int[] {-1, 1, 8, Integer.MIN_VALUE, Integer.MAX_VALUE}) {
            due.be("BAD: CUSTOMER " + i, y.film(0, i, 3), OneCubeEach.BAD);
        }
        for (int sheet : new int[] {-1, 4, Integer.MIN_VALUE, Integer.MAX_VALUE}) {
            due.be("BAD: SHEET " + sheet, y.film(sheet, 0, 3), OneCubeEach.BAD);
        }
        due.be("a refusal changes nothing", y.copy(0, 40, 0, 40, 0), 0);
    }

    /** What the words say, in longs: the lowest 32 bits of z, its 23 highest, what is left by TRIES. */
    private static long drawn(int seed, int[] tries, int[] spends, boolean[] buys) {
        long z = seed & 0xffffffffL;
        long all = 0;
        for (int i = 0; i < tries.length; i++) {
            z = (z * 1103515245L + 12345L) & 0xffffffffL;
            buys[i] = tries[i] != 0 && z / 512 % tries[i] == 0;
            all += buys[i] ? spends[i] : 0;
        }
        return all;
    }

    private static OneCubeEach drawers() {
        OneCubeEach x = Due.by("eats 1;odds 1+number*3;spends 11+hour*10;");
        x.customer(0, 0, 0);
        x.customer(1, 1, 1);
        x.customer(2, 0, 2);
        x.customer(3, 2, 3);
        x.customer(4, 0, 4);
        x.customer(5, 0, 5);
        x.customer(0, 1, 6);
        x.customer(0, 9, 7);
        x.set(1, 0, 3);
        return x;
    }

    private static final int[] DRAW_TRIES = {1, 0, 2, 9, 0, 1, 4, 28};
    private static final int[] DRAW_SPENDS = {11, 0, 15, 3, 25, 61, 71, 81};

    private static final int[] SEEDS = {0, 1, -1, 2, 12345, -12345, 99999, 1 << 30, Integer.MIN_VALUE, Integer.MAX_VALUE,
        Integer.MAX_VALUE - 1, 777777777, -777777777, 31, 42, 65536, -65536, 1103515245};

    private static void sell(Due due) {
        OneCubeEach x = drawers();
        for (int i = 0; i < 8; i++) {
            due.be("TRIES of " + i, x.told(i, 11), DRAW_TRIES[i]);
            due.be("SPENDS of " + i, x.told(i, 12), DRAW_SPENDS[i]);
        }
        int[] bought = new int[8];
        boolean[] buys = new boolean[8];
        for (int turn = 0; turn < SEEDS.length * 4; turn++) {
            int seed = SEEDS[turn % SEEDS.length] + turn / SEEDS.length * 1000;
            due.be("what all spend, together: sell(" + seed + ")", x.sell(seed), drawn(seed, DRAW_TRIES, DRAW_SPENDS, buys));
            for (int i = 0; i < 8; i++) {
                bought[i] += buys[i] ? 1 : 0;
            }
        }
        int all = 0;
        for (int i = 0; i < 8; i++) {
            due.be("BOUGHT of each who does is 1 more, " + i, x.told(i, 9), bought[i]);
            all += bought[i];
        }
        due.be("BOUGHT of all", x.count(2), all);
        OneCubeEach y = drawers();
        y.set(3, 0, 1 << 3 | 1 << 6 | 1 << 7);
        int[] tries = {9, 4, 28};
        int[] spends = {3, 71, 81};
        for (int seed : SEEDS) {
            due.be("of each who is THERE, in order: sell(" + seed + ")", y.sell(seed), drawn(seed, tries, spends, buys));
        }
        due.be("who isn't buys nothing", y.told(0, 9), 0);
        due.be("none is here", new OneCubeEach().sell(5), 0);
    }

    /** Beyond the 512 calls of the document's runs: what it says of 999 can be reached in no other way. */
    private static void boughtAtMost(Due due) {
        OneCubeEach x = Due.by("eats 0;odds 1;spends 7;");
        x.customer(0, 0, 0);
        x.customer(0, 0, 1);
        for (int i = 1; i <= 998; i++) {
            x.sell(i);
        }
        due.be("BOUGHT, 998", x.told(0, 9), 998);
        x.set(3, 0, 1);
        for (int i = 0; i < 4; i++) {
            due.be("spends all the same", x.sell(i), 7);
            due.be("999 at most", x.told(0, 9), 999);
        }
        due.be("the other's", x.told(1, 9), 998);
        due.be("BOUGHT of all", x.count(2), 1997);
    }

    private static void chance(Due due, OneCubeEach x, int seed, int m, int k) {
        int above = 0;
        for (int i = 0; i < m; i++) {
            above += drawn(seed + i, DRAW_TRIES, DRAW_SPENDS, new boolean[8]) >= k ? 1 : 0;
        }
        int below = m;
        for (int d = m; d > 1; d--) {
            if (above % d == 0 && below % d == 0) {
                above /= d;
                below /= d;
            }
        }
        String call = "IN m seeds: chance(" + seed + ", " + m + ", " + k;
        due.be(call + ", 0)", x.chance(seed, m, k, 0), above);
        due.be(call + ", 1)", x.chance(seed, m, k, 1), below);
    }

    private static void chances(Due due) {
        OneCubeEach x = drawers();
        int[] seeds = {0, -10, Integer.MAX_VALUE, Integer.MAX_VALUE - 9, Integer.MIN_VALUE, 4711};
        for (int seed : seeds) {
            for (int m : new int[] {1, 2, 12, 19, 20}) {
                for (int k : new int[] {72, 73, 87, 143, 9999}) {
                    chance(due, x, seed, m, k);
                }
            }
        }
        due.be("in thought", x.count(2), 0);
        OneCubeEach y = drawers();
        for (int m = 1; m <= 20; m++) {
            chance(due, y, 300, m, 80);
            due.be("k 0: surely", y.chance(m, m, 0, 0), 1);
            due.be("k 0: surely", y.chance(m, m, 0, 1), 1);
            due.be("k 9999: never", y.chance(m, m, 9999, 0), 0);
            due.be("k 9999: never, in lowest terms", y.chance(m, m, 9999, 1), 1);
        }
        OneCubeEach one = Due.by("eats 0;odds 1;spends 42;");
        one.customer(0, 0, 0);
        due.be("k or more: k", one.chance(1, 7, 42, 0), 1);
        due.be("k or more: above", one.chance(1, 7, 43, 0), 0);
        due.be("k or more: below", one.chance(1, 7, 41, 0), 1);
        due.be("none is here, k 0", new OneCubeEach().chance(1, 7, 0, 0), 1);
        due.be("none is here, k 1", new OneCubeEach().chance(1, 7, 1, 0), 0);
        int[][] no = {{0, 0, 0}, {-1, 0, 0}, {21, 0, 0}, {Integer.MIN_VALUE, 0, 0}, {Integer.MAX_VALUE, 0, 1}, {1, -1, 0}, {1, 10000, 0},
            {1, Integer.MIN_VALUE, 0}, {1, Integer.MAX_VALUE, 1}, {1, 0, -1}, {1, 0, 2}, {1, 0, Integer.MIN_VALUE},
            {1, 0, Integer.MAX_VALUE}};
        for (int[] n : no) {
            due.be("NO: m, k, part", one.chance(3, n[0], n[1], n[2]), OneCubeEach.NO);
        }
    }

    private static void all(Due due, String words, OneCubeEach x, int customers, int... want) {
        due.be(words + ": CUSTOMERS", x.count(0), customers);
        for (int what = 0; what < 5; what++) {
            due.be(words + ": told(0, " + what + ")", x.told(0, what), want[what]);
        }
        for (int i = 0; i < customers; i++) {
            int[] one = {(want[5] + i) % 10, (want[6] + i) % 10, want[7] + i, i % 6, want[8]};
            for (int what = 5; what < 10; what++) {
                due.be(words + ": told(" + i + ", " + what + ")", x.told(i, what), one[what - 5]);
            }
        }
        due.be(words + ": THE RULE", x.count(5), want[9]);
    }

    private static void lay(OneCubeEach x, int customers, int... v) {
        for (int what = 0; what < 5; what++) {
            x.set(what, 0, v[what]);
        }
        for (int i = 0; i < customers; i++) {
            x.set(5, i, (v[5] + i) % 10);
            x.set(6, i, (v[6] + i) % 10);
            x.set(7, i, v[7] + i);
        }
        x.force(v[9]);
    }

    private static void image(Due due) {
        OneCubeEach x = Due.by("eats 1;odds 1;spends 1;");
        due.be("STATE: there is none", x.back(), OneCubeEach.STATE);
        due.be("an IMAGE of none", x.image(), 0);
        due.be("is one", x.back(), 0);
        for (int i = 0; i < 8; i++) {
            x.customer(i % 6, 0, 0);
        }
        due.be("CUSTOMERS that came since go", x.back(), 0);
        due.be("CUSTOMERS that came since go", x.told(0, 8), -100000000);
        for (int i = 0; i < 5; i++) {
            x.customer(i % 6, 0, 0);
        }
        int[] first = {40, 6, 0, 513, 99, 3, 8, 90, 0, 1};
        int[] other = {1, 1, 1, 0, 0, 9, 9, 0, 0, 0};
        lay(x, 5, first);
        due.be("how many CUSTOMERS", x.image(), 5);
        for (int turn = 0; turn < 3; turn++) {
            for (int i = 5; i < 8; i++) {
                due.be("came since", x.customer(i % 6, 0, 0), i);
            }
            lay(x, 8, other);
            x.set(3, 0, 1023);
            x.sell(turn);
            x.set(3, 0, 0);
            due.be("All that it keeps is as in THE IMAGE", x.back(), 5);
            all(due, "All that it keeps is as in THE IMAGE", x, 5, first);
        }
        for (int i = 5; i < 8; i++) {
            due.be("comes anew", x.customer(i % 6, (3 + i) % 10, (8 + i) % 10), i);
            due.be("20 as one comes", x.told(i, 7), 20);
            due.be("BOUGHT 0", x.told(i, 9), 0);
        }
        lay(x, 8, other);
        due.be("another IMAGE", x.image(), 8);
        lay(x, 8, first);
        due.be("of eight", x.back(), 8);
        all(due, "another IMAGE", x, 8, other);
        due.be("BAD, FULL as before", x.customer(0, 0, 0), OneCubeEach.FULL);
    }

    /** All that is asked of all CUSTOMERS together. */
    private static long[] ofAll(OneCubeEach x) {
        return new long[] {x.board(0), x.board(1), x.board(2), x.board(3), x.board(4), x.board(5), x.fair(0), x.fair(1),
            x.buysOne(0), x.buysOne(1), x.hour(2, 0), x.hour(2, 1), x.cubes(1), x.shelf(1), x.apron(1), x.stand(4, 0), x.stand(4, 1),
            x.setting(1), x.sendAway(0), x.sendAway(1), x.chance(3, 20, 5, 0), x.count(0), x.count(2), x.sell(4), x.lost(1), x.lost(7)};
    }

    private static OneCubeEach few(int customers) {
        OneCubeEach x = Due.by("eats 1+hunger;odds 1+(number=9)*20;spends 5;");
        for (int i = 0; i < customers; i++) {
            x.customer(0, i, 2 * i);
            x.set(7, i, 0);
        }
        return x;
    }

    /** Those who go are hungrier than all others and have bought. */
    private static void gone(Due due) {
        for (int customers = 0; customers < 4; customers++) {
            OneCubeEach x = few(customers);
            x.image();
            for (int i = customers; i < 8; i++) {
                x.customer(i % 2, 0, 2);
                x.set(7, i, 98);
            }
            x.sell(0);
            x.back();
            long[] got = ofAll(x);
            long[] want = ofAll(few(customers));
            for (int i = 0; i < want.length; i++) {
                due.be("CUSTOMERS that came since go, " + customers + " stay: question " + i, got[i], want[i]);
            }
        }
    }

    /** What an IMAGE does not keep: TEXTS, THE TAPE, SHEETS. */
    private static void notKept(Due due) {
        OneCubeEach x = new OneCubeEach();
        x.customer(0, 0, 0);
        x.feed('e');
        Due.row(x, 0, 2, 1, 2);
        x.image();
        x.feed('a');
        Due.read(x, "ts 1;odds 1;spends 1;");
        x.feed('q');
        Due.row(x, 0, 0, 3);
        x.force(1);
        x.sell(0);
        int bought = x.count(2);
        x.back();
        due.be("THE RULE", x.count(5), 0);
        due.be("BOUGHT", x.count(2), 0);
        due.be("it was so", bought, 1);
        due.be("TEXTS stay", x.count(3), 2);
        due.be("THE TAPE stays", x.count(4), 1);
        due.be("SHEETS stay", x.cell(0, 1, 0), -12);
        due.be("SHEETS stay", x.customers(0, 0, 0, 0), 0);
        due.be("a TEXT that came since may be THE RULE", x.force(1), 0);
        due.be("BOUGHT again", x.sell(0), 1);
        x.image();
        x.sell(0);
        x.sell(0);
        x.back();
        due.be("BOUGHT as in THE IMAGE", x.told(0, 9), 1);
    }

    private static void count(Due due) {
        OneCubeEach x = new OneCubeEach();
        for (int what : new int[] {-1, 6, 7, Integer.MIN_VALUE, Integer.MAX_VALUE}) {
            due.be("BAD: count(" + what + ")", x.count(what), OneCubeEach.BAD);
        }
        int[][] opens = {{0, 0}, {1, 1}, {512, 1}, {513, 2}, {1022, 9}, {1023, 10}};
        for (int[] open : opens) {
            x.set(3, 0, open[0]);
            due.be("HOURS that are OPEN, " + open[0], x.count(1), open[1]);
        }
        Due.read(x, "eats 0;odds 1;spends 1;");
        x.force(1);
        for (int i = 0; i < 8; i++) {
            due.be("CUSTOMERS", x.count(0), i);
            x.customer(0, 0, i);
        }
        due.be("CUSTOMERS", x.count(0), 8);
        x.sell(0);
        due.be("BOUGHT of all eight", x.count(2), 8);
        x.set(3, 0, 128);
        x.sell(0);
        due.be("BOUGHT of all, the eighth once more", x.count(2), 9);
        x.set(3, 0, 0);
        due.be("BOUGHT of all, THERE or not", x.count(2), 9);
    }

    public static void main(String[] args) {
        Due due = new Due();
        first(due);
        kinds(due);
        numbersHoursSorts(due);
        hunger(due);
        texts(due);
        allCells(due);
        film(due);
        sell(due);
        boughtAtMost(due);
        chances(due);
        image(due);
        gone(due);
        notKept(due);
        count(due);
        due.end();
    }
}
