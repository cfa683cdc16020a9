/** The edges of the board, the KINDS and what it comes to (Terms; promises 1 to 4, 8 to 11): by the document's words. */
public final class BoardEdgesTest {
    private static final int ODD = -100000000;
    private static final int[] FAR = {Integer.MIN_VALUE, Integer.MIN_VALUE + 1, -100000000, Integer.MAX_VALUE - 1, Integer.MAX_VALUE};

    // By TRIES 97, 89, 83, 79, 73, 71, 67, 61, reckoned elsewhere.
    private static final long PRIMES_BELOW = 1199092733403101L;
    private static final long PRIMES_FAIR_98 = 12380216965549160L;
    private static final long PRIMES_FAIR_GOURMETS = 17336855969101260L;
    private static final long PRIMES_BUYS = 120672363175901L;

    /** Eight of a KIND, NUMBER and HOUR as they came, by a rule. */
    private static OneCubeEach eight(String text, int kind) {
        OneCubeEach x = Due.by(text);
        for (int i = 0; i < 8; i++) {
            x.customer(kind, i, i);
        }
        return x;
    }

    private static void range(Due due, String words, int what, int least, int most, int first) {
        OneCubeEach x = new OneCubeEach();
        x.customer(0, 3, 6);
        x.customer(0, 4, 7);
        due.be(words + ": at first", x.told(0, what), first);
        int was = first;
        for (int v = least; v <= most; v += Math.max(1, (most - least) / 25)) {
            due.be(words + ": what it was", x.set(what, 0, v), was);
            due.be(words + ": becomes v", x.told(0, what), v);
            was = v;
        }
        x.set(what, 0, most);
        for (int v : new int[] {least - 1, most + 1, least - 256, most + 256, most + 65536}) {
            due.be(words + ": set to " + v, x.set(what, 0, v), OneCubeEach.BAD);
        }
        for (int v : FAR) {
            due.be(words + ": set to " + v, x.set(what, 0, v), OneCubeEach.BAD);
        }
        due.be(words + ": a refusal changes nothing", x.told(0, what), most);
        for (int of : new int[] {2, 7, 8, -1, Integer.MIN_VALUE, Integer.MAX_VALUE}) {
            due.be("of does not matter, or is one: set(" + what + ", " + of + ")", x.set(what, of, least),
                what < 5 ? most : OneCubeEach.BAD);
            due.be("told(" + of + ", " + what + ")", x.told(of, what), what < 5 ? least : ODD);
            x.set(what, 0, most);
        }
        if (what >= 5) {
            due.be(words + ": the other's stays", x.told(1, what), what == 5 ? 4 : what == 6 ? 7 : 20);
            due.be(words + ": of the other", x.set(what, 1, least), what == 5 ? 4 : what == 6 ? 7 : 20);
            due.be(words + ": of the one stays", x.told(0, what), most);
        }
    }

    private static void ranges(Due due) {
        range(due, "CUBE (1 .. 40; 10 at first)", 0, 1, 40, 10);
        range(due, "SORTS (1 .. 6; 4 at first)", 1, 1, 6, 4);
        range(due, "GIRL (1, 0; 1 at first)", 2, 0, 1, 1);
        range(due, "OPEN (bits; all, 1023, at first)", 3, 0, 1023, 1023);
        range(due, "GRAM (0 .. 99; 2 at first)", 4, 0, 99, 2);
        range(due, "a NUMBER (0 .. 9)", 5, 0, 9, 3);
        range(due, "come in an HOUR (0 .. 9)", 6, 0, 9, 6);
        range(due, "HUNGER (0 .. 99; 20 as one comes)", 7, 0, 99, 20);
        OneCubeEach x = new OneCubeEach();
        x.customer(0, 0, 0);
        for (int what : new int[] {-1, 8, 9, 10, 16, Integer.MIN_VALUE, Integer.MAX_VALUE}) {
            due.be("BAD: set(" + what + ")", x.set(what, 0, 1), OneCubeEach.BAD);
        }
        for (int what : new int[] {-1, 16, 17, Integer.MIN_VALUE, Integer.MAX_VALUE}) {
            due.be("-100000000: none such: told(0, " + what + ")", x.told(0, what), ODD);
        }
        for (int what = 5; what <= 15; what++) {
            due.hold("one such: told(0, " + what + ")", x.told(0, what) != ODD);
            for (int of : new int[] {-1, 1, 8, Integer.MIN_VALUE, Integer.MAX_VALUE}) {
                due.be("-100000000: none such: told(" + of + ", " + what + ")", x.told(of, what), ODD);
            }
        }
        OneCubeEach none = new OneCubeEach();
        for (int what = 5; what <= 15; what++) {
            due.be("No CUSTOMERS: told(0, " + what + ")", none.told(0, what), ODD);
        }
    }

    private static void customers(Due due) {
        int[] good = {0, 5, 0, 9, 0, 9};
        for (int part = 0; part < 3; part++) {
            OneCubeEach x = new OneCubeEach();
            for (int v : new int[] {good[2 * part] - 1, good[2 * part + 1] + 1, 256, Integer.MIN_VALUE, Integer.MAX_VALUE}) {
                int[] with = {1, 1, 1};
                with[part] = v;
                due.be("a KIND, a NUMBER, an HOUR: " + v, x.customer(with[0], with[1], with[2]), OneCubeEach.BAD);
            }
            due.be("none came", x.count(0), 0);
            for (int end = 0; end < 2; end++) {
                int[] with = {1, 1, 1};
                with[part] = good[2 * part + end];
                due.be("numbered from 0", x.customer(with[0], with[1], with[2]), end);
                due.be("the KIND", x.told(end, 8), with[0]);
                due.be("the NUMBER", x.told(end, 5), with[1]);
                due.be("the HOUR", x.told(end, 6), with[2]);
                due.be("20 as one comes", x.told(end, 7), 20);
                due.be("BOUGHT so often (0)", x.told(end, 9), 0);
            }
        }
        OneCubeEach x = eight("eats 1; odds 1; spends 1;", 0);
        due.be("8 at most", x.customer(0, 0, 0), OneCubeEach.FULL);
        due.be("BAD; FULL", x.customer(0, 0, 10), OneCubeEach.BAD);
        due.be("8 at most", x.count(0), 8);
        due.be("the eighth stays", x.told(7, 5), 7);
        due.be("a ninth is none", x.told(8, 5), ODD);
    }

    private static void kindsTell(Due due, String words, int what, OneCubeEach x, int... want) {
        for (int kind = 0; kind < 6; kind++) {
            due.be(words + ": told(" + kind + ", " + what + ")", x.told(kind, what), want[kind]);
        }
    }

    private static OneCubeEach six(int v, int sorts, int girl, int hunger, int number) {
        OneCubeEach x = Due.by("eats " + v + ";odds " + v + ";spends " + v + ";");
        x.set(1, 0, sorts);
        x.set(2, 0, girl);
        for (int kind = 0; kind < 6; kind++) {
            x.customer(kind, number, 0);
            x.set(7, kind, hunger);
        }
        return x;
    }

    private static void kinds(Due due) {
        String eats = "EATS (0 .. 99, else the bound)";
        kindsTell(due, eats, 10, six(0, 1, 1, 9, 0), 0, 0, 0, 0, 1, 0);
        kindsTell(due, eats, 10, six(0, 1, 0, 9, 0), 0, 0, 0, 0, 0, 0);
        kindsTell(due, eats, 10, six(1, 1, 0, 10, 0), 1, 2, 1, 3, 1, 1);
        kindsTell(due, eats, 10, six(2, 1, 0, 19, 0), 2, 4, 1, 5, 1, 1);
        kindsTell(due, eats, 10, six(5, 6, 0, 20, 0), 5, 10, 5, 12, 5, 1);
        kindsTell(due, eats, 10, six(6, 6, 0, 99, 0), 6, 12, 6, 21, 6, 1);
        kindsTell(due, eats, 10, six(7, 6, 1, 0, 0), 7, 14, 6, 14, 1, 1);
        kindsTell(due, eats, 10, six(49, 3, 0, 9, 0), 49, 98, 3, 98, 3, 1);
        kindsTell(due, eats, 10, six(49, 3, 0, 10, 0), 49, 98, 3, 99, 3, 1);
        kindsTell(due, eats, 10, six(49, 3, 0, 20, 0), 49, 98, 3, 99, 3, 1);
        kindsTell(due, eats, 10, six(50, 2, 1, 0, 0), 50, 99, 2, 99, 1, 1);
        kindsTell(due, eats, 10, six(99, 6, 0, 99, 0), 99, 99, 6, 99, 6, 1);
        kindsTell(due, eats, 10, six(100, 6, 0, 0, 0), 99, 99, 6, 99, 6, 1);
        kindsTell(due, eats + ", v below 0 is 0", 10, six(-9, 6, 0, 30, 0), 0, 0, 0, 3, 0, 0);
        String tries = "TRIES (0 .. 99 (0: never), else the bound)";
        kindsTell(due, tries, 11, six(0, 3, 1, 0, 0), 0, 0, 0, 0, 0, 0);
        kindsTell(due, tries, 11, six(0, 3, 1, 0, 9), 0, 0, 0, 9, 0, 0);
        kindsTell(due, tries, 11, six(0, 4, 1, 0, 1), 0, 0, 0, 1, 0, 1);
        kindsTell(due, tries, 11, six(1, 3, 0, 0, 1), 1, 0, 2, 2, 0, 1);
        kindsTell(due, tries, 11, six(49, 3, 0, 0, 9), 49, 0, 98, 58, 0, 49);
        kindsTell(due, tries, 11, six(50, 4, 0, 0, 9), 50, 0, 99, 59, 0, 1);
        kindsTell(due, tries, 11, six(90, 3, 0, 0, 9), 90, 0, 99, 99, 0, 90);
        kindsTell(due, tries, 11, six(91, 3, 0, 0, 9), 91, 0, 99, 99, 0, 91);
        kindsTell(due, tries, 11, six(99, 6, 0, 0, 9), 99, 0, 99, 99, 0, 1);
        kindsTell(due, tries + ", v below 0 is 0", 11, six(-9, 3, 0, 0, 9), 0, 0, 0, 9, 0, 0);
        String spends = "SPENDS (0 .. 999, else the bound)";
        kindsTell(due, spends, 12, six(0, 4, 1, 0, 0), 0, 0, 0, 3, 0, 0);
        kindsTell(due, spends, 12, six(1, 4, 1, 0, 0), 1, 0, 0, 3, 0, 1);
        kindsTell(due, spends, 12, six(31, 4, 0, 0, 1), 31, 0, 15, 3, 15, 41);
        kindsTell(due, spends, 12, six(98, 4, 0, 0, 9), 98, 0, 49, 3, 49, 188);
        kindsTell(due, spends, 12, six(99, 1, 1, 99, 9), 99, 0, 49, 3, 49, 189);
        kindsTell(due, spends + ", v above 99 is 99", 12, six(9999, 1, 1, 99, 1), 99, 0, 49, 3, 49, 109);
        kindsTell(due, spends + ", v below 0 is 0", 12, six(-50, 1, 1, 99, 2), 0, 0, 0, 3, 0, 20);
        int[][] by = {{0, 0}, {9, 0}, {10, 1}, {19, 1}, {20, 2}, {89, 8}, {90, 9}, {99, 9}};
        for (int[] b : by) {
            due.be("HUNGER by 10 (cut), " + b[0], six(0, 1, 0, b[0], 0).told(3, 10), b[1]);
        }
        for (int sorts = 1; sorts <= 6; sorts++) {
            due.be("SORTS at most, " + sorts, six(9, sorts, 0, 0, 0).told(2, 10), sorts);
            due.be("1, if SORTS are above 3, " + sorts, six(9, sorts, 0, 0, 0).told(5, 11), sorts > 3 ? 1 : 9);
        }
    }

    private static void costAndGain(Due due) {
        int[][] costs = {{1, 9, 1, 0}, {1, 10, 1, 1}, {1, 19, 1, 1}, {1, 20, 1, 2}, {3, 33, 1, 9}, {7, 3, 5, 10}, {99, 40, 0, 0},
            {0, 40, 99, 0}, {99, 40, 99, 39204}, {1, 1, 99, 9}, {99, 1, 1, 9}};
        for (int[] c : costs) {
            OneCubeEach x = Due.by("eats " + c[0] + ";odds 0;spends 99;");
            x.set(0, 0, c[1]);
            x.set(4, 0, c[2]);
            x.customer(0, 0, 0);
            String at = "EATEN " + c[0] + " times CUBE " + c[1] + " times GRAM " + c[2] + ", by 10 (cut)";
            due.be(at, x.told(0, 14), c[3]);
            due.be("never: 0, " + at, x.told(0, 15), -1000 * c[3]);
        }
        int[][] brings = {{10, 3, 3333}, {20, 3, 6666}, {1, 99, 10}, {99, 1, 99000}, {0, 7, 0}, {2, 2, 1000}, {98, 99, 989}, {5, 0, 0}};
        for (int[] b : brings) {
            OneCubeEach x = Due.by("eats 1;odds " + b[1] + ";spends " + b[0] + ";");
            x.customer(0, 0, 0);
            due.be("SPENDS " + b[0] + " times 1000, by TRIES " + b[1] + " (cut), less 2000", x.told(0, 15), b[2] - 2000);
            due.be("the same of all", x.board(0), b[2] - 2000);
        }
        OneCubeEach x = eight("eats 99;odds 0;spends 99;", 0);
        x.set(0, 0, 40);
        x.set(4, 0, 99);
        due.be("ALL GAIN, the least there is", x.board(0), -313632000);
        due.be("COST of all, the most there is", x.board(2), 313632);
        due.be("EATEN, the most there is", x.board(1), 792);
        OneCubeEach y = eight("eats 0;odds 1;spends 99;", 5);
        for (int i = 0; i < 8; i++) {
            y.set(5, i, 9);
        }
        due.be("ALL GAIN, the most there is", y.board(0), 1512000);
        OneCubeEach z = Due.by("eats 1;odds 3;spends 10;");
        z.customer(0, 0, 0);
        z.customer(0, 0, 0);
        z.set(0, 0, 9);
        z.set(4, 0, 1);
        due.be("BRINGS is cut of each", z.board(0), 6666);
        due.be("COST is cut of each", z.board(2), 0);
    }

    private static void there(Due due) {
        for (int hour = 0; hour < 10; hour++) {
            OneCubeEach x = Due.by("eats 2;odds 2;spends 10;");
            x.customer(0, 0, hour);
            x.customer(1, 0, hour);
            for (int turn = 0; turn < 2; turn++) {
                int on = turn == 0 ? 1 : 0;
                x.set(3, 0, turn == 0 ? 1 << hour : 1023 ^ 1 << hour);
                String at = "THERE, if the board stands in the HOUR " + hour + ", " + on;
                int[] told = {2, 2, 10, on, 4 * on, on * (5000 - 4000)};
                for (int what = 10; what < 16; what++) {
                    due.be(at + ": told(0, " + what + ")", x.told(0, what), told[what - 10]);
                }
                int[] board = {on * (5000 - 12000), on * 6, on * 12, on * 2, turn == 0 ? hour : -1, on * 3};
                for (int what = 0; what < 6; what++) {
                    due.be(at + ": board(" + what + ")", x.board(what), board[what]);
                }
                for (int h = 0; h < 10; h++) {
                    due.be(at + ": hour(" + h + ", 0)", x.hour(h, 0), h == hour ? 6 * on : 0);
                    due.be(at + ": hour(" + h + ", 1)", x.hour(h, 1), h == hour ? 3 * on : 0);
                }
                due.be(at + ": fair(0)", x.fair(0), 5 * on);
                due.be(at + ": fair(1)", x.fair(1), 1);
                due.be(at + ": buysOne(0)", x.buysOne(0), on);
                due.be(at + ": buysOne(1)", x.buysOne(1), 1 + on);
            }
        }
    }

    private static void allEight(Due due) {
        OneCubeEach x = eight("eats 1+number;odds 2-(number=7);spends 50;", 0);
        // gains 25000 less 2000 times 1 .. 7, and 50000 less 16000
        int[] board = {7 * 25000 + 50000 - 72000, 36, 72, 0, 7, 255};
        for (int what = 0; what < 6; what++) {
            due.be("of all CUSTOMERS, together: board(" + what + ")", x.board(what), board[what]);
        }
        due.be("EATEN in the eighth's HOUR", x.hour(7, 0), 8);
        due.be("THERE in the eighth's HOUR", x.hour(7, 1), 128);
        due.be("FAIR of all", x.fair(0), 225);
        due.be("FAIR of all", x.fair(1), 1);
        due.be("one surely buys", x.buysOne(0), 1);
        due.be("one surely buys", x.buysOne(1), 1);
        OneCubeEach y = eight("eats 1;odds 9;spends 50;", 1);
        due.be("ONLY EATS, all eight", y.board(3), 255);
        y.set(3, 0, 128);
        due.be("ONLY EATS, the eighth", y.board(3), 128);
        due.be("who are THERE, the eighth", y.board(5), 128);
        y.set(6, 0, 7);
        due.be("THERE with the eighth", y.hour(7, 1), 129);
        due.be("EATEN with the eighth", y.hour(7, 0), 4);
        OneCubeEach z = eight("eats number<4;odds number=0;spends 1;", 0);
        due.be("ONLY EATS: EAT any, and never buy", z.board(3), 14);
        z.set(3, 0, 5);
        due.be("ONLY EATS: who are THERE", z.board(3), 4);
        for (int what : new int[] {-1, 6, 256, Integer.MIN_VALUE, Integer.MAX_VALUE}) {
            due.be("-100000000: board(" + what + ")", z.board(what), ODD);
        }
    }

    private static void crowd(Due due) {
        OneCubeEach x = Due.by("eats 2*number;odds 1;spends 1;");
        due.be("CROWD, NONE: none is", x.board(4), OneCubeEach.NONE);
        x.customer(0, 0, 0);
        due.be("CROWD, NONE: one eats nothing", x.board(4), OneCubeEach.NONE);
        x.customer(0, 1, 9);
        due.be("CROWD, the last HOUR", x.board(4), 9);
        x.customer(0, 1, 5);
        due.be("CROWD, of like ones the first", x.board(4), 5);
        x.customer(0, 1, 0);
        due.be("CROWD, the first HOUR", x.board(4), 0);
        x.customer(0, 1, 9);
        due.be("CROWD, two in the last HOUR", x.board(4), 9);
        x.set(3, 0, 511);
        due.be("CROWD, who isn't THERE eats nothing", x.board(4), 0);
        x.set(3, 0, 1);
        x.set(5, 3, 0);
        due.be("CROWD, NONE: none who is THERE", x.board(4), OneCubeEach.NONE);
        OneCubeEach one = Due.by("eats 1;odds 1;spends 1;");
        one.customer(0, 0, 6);
        due.be("CROWD, by one cube", one.board(4), 6);
    }

    private static void fraction(Due due, String words, OneCubeEach x, long... want) {
        due.be(words + ": fair(0)", x.fair(0), want[0]);
        due.be(words + ": fair(1)", x.fair(1), want[1]);
        due.be(words + ": buysOne(0)", x.buysOne(0), want[2]);
        due.be(words + ": buysOne(1)", x.buysOne(1), want[3]);
    }

    private static void fractions(Due due) {
        fraction(due, "of none", new OneCubeEach(), 0, 1, 0, 1);
        fraction(due, "who never buy", eight("eats 1;odds 0;spends 9;", 0), 0, 1, 0, 1);
        fraction(due, "who spend nothing", eight("eats 1;odds 2;spends 0;", 0), 0, 1, 255, 256);
        fraction(due, "who surely buy", eight("eats 1;odds 1;spends 9;", 0), 72, 1, 1, 1);
        OneCubeEach x = Due.by("eats 1;odds 3*number;spends 1;");
        x.customer(0, 1, 0);
        x.customer(0, 2, 9);
        fraction(due, "in lowest terms, 1/3 and 1/6", x, 1, 2, 4, 9);
        x.customer(0, 0, 0);
        fraction(due, "and one who never buys", x, 1, 2, 4, 9);
        x.set(3, 0, 1);
        fraction(due, "who are THERE", x, 1, 3, 1, 3);
        fraction(due, "99 .. 92", eight("eats 0;odds 99-number;spends 0;", 0), 0, 1, 8, 99);
        String primes = "eats 0;odds 97-8*(number=1)-14*(number=2)-18*(number=3)-24*(number=4)-26*(number=5)-30*(number=6)"
            + "-36*(number=7);spends ";
        fraction(due, "eight primes", eight(primes + "98;", 0), PRIMES_FAIR_98, PRIMES_BELOW, PRIMES_BUYS, PRIMES_BELOW);
        OneCubeEach gourmets = eight(primes + "99;", 5);
        gourmets.set(1, 0, 3);
        fraction(due, "eight gourmets by primes", gourmets, PRIMES_FAIR_GOURMETS, PRIMES_BELOW, PRIMES_BUYS, PRIMES_BELOW);
        for (int part : new int[] {-1, 2, 3, Integer.MIN_VALUE, Integer.MAX_VALUE}) {
            due.be("NO: part " + part, x.fair(part), OneCubeEach.NO);
            due.be("NO: part " + part, x.buysOne(part), OneCubeEach.NO);
        }
    }

    private static void hours(Due due) {
        OneCubeEach x = eight("eats 1;odds 1;spends 1;", 0);
        for (int hour : new int[] {-1, 10, 11, 32, Integer.MIN_VALUE, Integer.MAX_VALUE}) {
            due.be("BAD: hour(" + hour + ", 0)", x.hour(hour, 0), OneCubeEach.BAD);
            due.be("BAD: hour(" + hour + ", 1)", x.hour(hour, 1), OneCubeEach.BAD);
        }
        for (int what : new int[] {-1, 2, Integer.MIN_VALUE, Integer.MAX_VALUE}) {
            due.be("BAD: hour(0, " + what + ")", x.hour(0, what), OneCubeEach.BAD);
        }
        due.be("an HOUR without any", x.hour(9, 0), 0);
        due.be("an HOUR without any", x.hour(9, 1), 0);
        x.set(6, 0, 9);
        due.be("the last HOUR", x.hour(9, 0), 1);
        due.be("the last HOUR", x.hour(9, 1), 1);
    }

    public static void main(String[] args) {
        Due due = new Due();
        ranges(due);
        customers(due);
        kinds(due);
        costAndGain(due);
        there(due);
        allEight(due);
        crowd(due);
        fractions(due);
        hours(due);
        due.end();
    }
}
