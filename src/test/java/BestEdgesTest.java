/** The edges of what would be best (Terms; promises 12 to 18): each check bears the document's words. */
public final class BestEdgesTest {
    private static final int ODD = -100000000;

    /** One PLAIN CUSTOMER, who eats nothing and surely buys: ALL GAIN is a thousand times what the text says. */
    private static OneCubeEach spender(String spends) {
        OneCubeEach x = Due.by("eats 0;odds 1;spends " + spends + ";");
        x.customer(0, 0, 0);
        return x;
    }

    private static void asItWas(Due due, OneCubeEach x, int... want) {
        for (int what = 0; what < want.length; what++) {
            due.be("all is as it was: told(0, " + what + ")", x.told(0, what), want[what]);
        }
    }

    private static void cubes(Due due) {
        Object[][] rows = {{"cube", 40, 40000}, {"50-cube", 1, 49000}, {"7", 1, 7000}, {"0", 1, 0}, {"9*(cube=40)", 40, 9000},
            {"9*(cube=1)", 1, 9000}, {"9*(cube=23 or cube=37)", 23, 9000}, {"9*(11<cube)", 12, 9000}, {"99*(40<cube)", 1, 0},
            {"99*(cube<1)", 1, 0}};
        for (Object[] row : rows) {
            OneCubeEach x = spender((String) row[0]);
            due.be("CUBES (1 .. 40), of like ones the least, by " + row[0], x.cubes(0), (Integer) row[1]);
            due.be("ALL GAIN then, by " + row[0], x.cubes(1), (Integer) row[2]);
            asItWas(due, x, 10, 4, 1, 1023, 2);
        }
        OneCubeEach none = new OneCubeEach();
        due.be("CUBES without CUSTOMERS", none.cubes(0), 1);
        due.be("ALL GAIN then", none.cubes(1), 0);
        OneCubeEach loss = Due.by("eats 1;odds 0;spends 0;");
        loss.customer(0, 0, 0);
        loss.set(4, 0, 99);
        due.be("CUBES, though all are below 0", loss.cubes(0), 1);
        due.be("ALL GAIN then, below 0", loss.cubes(1), -9000);
        loss.set(4, 0, 2);
        due.be("CUBES, cut to nothing", loss.cubes(1), 0);
        loss.set(3, 0, 0);
        loss.set(0, 0, 40);
        due.be("CUBES, none being THERE", loss.cubes(0), 1);
    }

    private static void shelf(Due due) {
        Object[][] rows = {{"sorts", 6, 6000}, {"9-sorts", 1, 8000}, {"7", 1, 7000}, {"9*(sorts=6)", 6, 9000},
            {"9*(sorts=1)", 1, 9000}, {"9*(2<sorts)", 3, 9000}, {"99*(6<sorts)", 1, 0}, {"99*(sorts<1)", 1, 0}};
        for (Object[] row : rows) {
            OneCubeEach x = spender((String) row[0]);
            due.be("SHELF (1 .. 6), likewise, by " + row[0], x.shelf(0), (Integer) row[1]);
            due.be("ALL GAIN then, by " + row[0], x.shelf(1), (Integer) row[2]);
            asItWas(due, x, 10, 4, 1, 1023, 2);
        }
        OneCubeEach loss = Due.by("eats sorts;odds 0;spends 0;");
        loss.customer(0, 0, 0);
        due.be("SHELF, though all are below 0", loss.shelf(0), 1);
        due.be("ALL GAIN then, below 0", loss.shelf(1), -2000);
    }

    private static void apron(Due due) {
        Object[][] rows = {{"girl*5", 1, 5000}, {"5-girl", 0, 5000}, {"7", 0, 7000}, {"9*(girl=0)", 0, 9000}, {"9*(1<girl)", 0, 0},
            {"9*(girl<0)", 0, 0}};
        for (Object[] row : rows) {
            OneCubeEach x = spender((String) row[0]);
            for (int girl = 0; girl < 2; girl++) {
                x.set(2, 0, girl);
                due.be("APRON (0 ahead), by " + row[0], x.apron(0), (Integer) row[1]);
                due.be("ALL GAIN then, by " + row[0], x.apron(1), (Integer) row[2]);
                asItWas(due, x, 10, 4, girl, 1023, 2);
            }
        }
        OneCubeEach loss = Due.by("eats 3-girl;odds 0;spends 0;");
        loss.customer(0, 0, 0);
        due.be("APRON, though both are below 0", loss.apron(0), 1);
        due.be("ALL GAIN then, below 0", loss.apron(1), -4000);
    }

    private static void stand(Due due) {
        OneCubeEach none = new OneCubeEach();
        OneCubeEach last = Due.by("eats 0;odds 1;spends 7;");
        last.customer(0, 0, 9);
        OneCubeEach loss = Due.by("eats 1;odds 0;spends 0;");
        for (int hour = 0; hour < 8; hour++) {
            loss.customer(0, 0, hour);
        }
        for (int n = 0; n <= 10; n++) {
            due.be("STAND without CUSTOMERS, " + n, none.stand(n, 0), 0);
            due.be("ALL GAIN then", none.stand(n, 1), 0);
            due.be("from HOUR 0 .. 10 less n on, the last of them, " + n, last.stand(n, 0), n == 0 ? 0 : 10 - n);
            due.be("ALL GAIN then", last.stand(n, 1), n == 0 ? 0 : 7000);
            due.be("of like ones the first, where all lose, " + n, loss.stand(n, 0), n == 0 ? 0 : n == 1 ? 8 : 10 - n);
            due.be("ALL GAIN then", loss.stand(n, 1), n < 3 ? 0 : -2000 * (n - 2));
        }
        asItWas(due, loss, 10, 4, 1, 1023, 2);
        last.set(3, 0, 0);
        due.be("in which alone: OPEN does not matter", last.stand(3, 0), 7);
        due.be("ALL GAIN then", last.stand(3, 1), 7000);
        asItWas(due, last, 10, 4, 1, 0, 2);
        OneCubeEach two = Due.by("eats 0;odds 1;spends 7;");
        two.customer(0, 0, 2);
        two.customer(0, 0, 7);
        int[] first = {0, 2, 1, 0, 0, 0, 2, 1, 0, 0, 0};
        for (int n = 0; n <= 10; n++) {
            due.be("of like ones the first, " + n, two.stand(n, 0), first[n]);
            due.be("ALL GAIN then", two.stand(n, 1), n == 0 ? 0 : n < 6 ? 7000 : 14000);
        }
        for (int n : new int[] {-1, 11, 32, Integer.MIN_VALUE, Integer.MAX_VALUE}) {
            due.be("-100000000: n " + n, two.stand(n, 0), ODD);
            due.be("-100000000: n " + n, two.stand(n, 1), ODD);
        }
    }

    private static void setting(Due due) {
        Object[][] rows = {{"cube+sorts+girl", 4061, 47000}, {"60-cube-sorts-girl", 110, 58000}, {"7", 110, 7000},
            {"9*(cube=40 or sorts=6 or girl)", 111, 9000}, {"9*(cube=40 or sorts=6)", 160, 9000}, {"9*(cube=40)", 4010, 9000},
            {"9*(cube=40 and girl)", 4011, 9000}, {"9*(cube=5 and sorts=6 or cube=5 and girl)", 511, 9000},
            {"9*(cube=5 and sorts=6 or cube=6)", 560, 9000}, {"99*(40<cube or 6<sorts or 1<girl)", 110, 0},
            {"99*(cube<1 or sorts<1 or girl<0)", 110, 0}, {"9*(sorts=3 and girl=0)", 130, 9000}};
        for (Object[] row : rows) {
            OneCubeEach x = spender((String) row[0]);
            due.be("SETTING, of like ones the least CUBE, then SORTS, then GIRL, by " + row[0], x.setting(0), (Integer) row[1]);
            due.be("ALL GAIN then, by " + row[0], x.setting(1), (Integer) row[2]);
            asItWas(due, x, 10, 4, 1, 1023, 2);
        }
        due.be("SETTING without CUSTOMERS", new OneCubeEach().setting(0), 110);
        OneCubeEach loss = Due.by("eats 1;odds 0;spends 0;");
        loss.customer(0, 0, 0);
        loss.set(4, 0, 99);
        due.be("SETTING, though all are below 0", loss.setting(0), 110);
        due.be("ALL GAIN then, below 0", loss.setting(1), -9000);
    }

    private static void sendAway(Due due) {
        OneCubeEach x = Due.by("eats number;odds 1;spends 10;");
        due.be("SEND AWAY, NONE: none is here", x.sendAway(0), OneCubeEach.NONE);
        due.be("1: as so, if none", x.sendAway(1), 0);
        x.customer(0, 5, 0);
        due.be("if more than so: one whose GAIN is 0 stays", x.sendAway(0), OneCubeEach.NONE);
        due.be("1: as so, if none", x.sendAway(1), 0);
        x.customer(0, 4, 0);
        due.be("if more than so", x.sendAway(0), OneCubeEach.NONE);
        due.be("1: as so, if none", x.sendAway(1), 2000);
        for (int i = 2; i < 8; i++) {
            x.customer(0, 7, i);
        }
        due.be("of like ones the first", x.sendAway(0), 2);
        due.be("ALL GAIN then", x.sendAway(1), 2000 - 5 * 4000);
        x.set(5, 7, 8);
        due.be("the eighth", x.sendAway(0), 7);
        due.be("ALL GAIN then", x.sendAway(1), 2000 - 5 * 4000);
        x.set(5, 0, 9);
        due.be("the first of all", x.sendAway(0), 0);
        due.be("ALL GAIN then", x.sendAway(1), 2000 - 5 * 4000 - 6000);
        x.set(3, 0, 1 << 4);
        due.be("of those who are THERE", x.sendAway(0), 4);
        due.be("ALL GAIN then", x.sendAway(1), 0);
        x.set(3, 0, 0);
        due.be("none who is THERE", x.sendAway(0), OneCubeEach.NONE);
        due.be("1: as so, if none", x.sendAway(1), 0);
        due.be("in thought", x.count(0), 8);
        OneCubeEach one = Due.by("eats 1;odds 0;spends 0;");
        one.customer(0, 0, 0);
        one.set(4, 0, 1);
        due.be("more by the least COST there is", one.sendAway(0), 0);
        due.be("ALL GAIN then", one.sendAway(1), 0);
        OneCubeEach bit = Due.by("eats 0;odds 99;spends 1;");
        bit.customer(0, 0, 0);
        due.be("who brings a little stays", bit.sendAway(0), OneCubeEach.NONE);
        due.be("1: as so, if none", bit.sendAway(1), 10);
    }

    /** COST is the CUBE, so that GAIN is a thousand times what is spent less the CUBE. */
    private static void lost(Due due) {
        int[][] rows = {{0, 1}, {1, 2}, {8, 9}, {38, 39}, {39, 40}, {40, -1}, {41, -1}, {99, -1}};
        for (int[] row : rows) {
            OneCubeEach x = Due.by("eats 1;odds 1;spends " + row[0] + ";");
            x.customer(0, 0, 3);
            x.set(4, 0, 10);
            due.be("the least CUBE (1 .. 40) from which on GAIN is below 0, SPENDS " + row[0], x.lost(0), row[1]);
            asItWas(due, x, 10, 4, 1, 1023, 10);
            x.set(3, 0, 1023 - 8);
            due.be("not THERE: GAIN is 0", x.lost(0), OneCubeEach.NONE);
        }
        Object[][] holes = {{"not cube=30", 31}, {"not cube=39", 40}, {"not cube=40", -1}, {"not cube=1", 2}, {"cube=40", 40},
            {"cube=39", -1}, {"cube<40", -1}, {"0", -1}, {"1", 1}, {"5<cube", 6}, {"cube<5 or 5<cube", 6}};
        for (Object[] hole : holes) {
            OneCubeEach x = Due.by("eats " + hole[0] + ";odds 0;spends 0;");
            x.customer(0, 0, 0);
            x.set(4, 0, 10);
            due.be("it, and all greater ones, by " + hole[0], x.lost(0), (Integer) hole[1]);
        }
        OneCubeEach x = Due.by("eats 1;odds 1;spends 20+number;");
        for (int i = 0; i < 8; i++) {
            x.customer(0, i, i);
        }
        x.set(4, 0, 10);
        for (int i = 0; i < 8; i++) {
            due.be("one's GAIN, " + i, x.lost(i), 21 + i);
        }
        for (int i : new int[] {-1, 8, 9, Integer.MIN_VALUE, Integer.MAX_VALUE}) {
            due.be("BAD: lost(" + i + ")", x.lost(i), OneCubeEach.BAD);
        }
        due.be("BAD: none has come", new OneCubeEach().lost(0), OneCubeEach.BAD);
    }

    /** What was found before has no say in what is found now. */
    private static void anew(Due due) {
        String words = "ALL GAIN would be most, asked anew";
        for (int call = 0; call < 6; call++) {
            OneCubeEach x = spender("30+hour");
            int[] most = {30000, 30000, 30000, 30000, 30000, 30000};
            int[] least = {-2000, -20000, -20000, -20000, -2000, 0};
            int[] found = {1, 1, 0, 0, 110, 0};
            due.be(words + ", " + call, asked(x, call, 1), most[call]);
            Due.read(x, "eats 10;odds 0;spends 0;");
            x.force(2);
            x.set(4, 0, 2);
            due.be(words + ", " + call, asked(x, call, 1), least[call]);
            due.be(words + ", " + call, asked(x, call, 0), found[call]);
            due.be(words + ", " + call, x.board(4), 0);
            x.force(1);
            due.be(words + ", " + call, asked(x, call, 1), most[call]);
            due.be(words + ", " + call, x.board(4), OneCubeEach.NONE);
        }
    }

    private static int asked(OneCubeEach x, int call, int what) {
        switch (call) {
            case 0: return x.cubes(what);
            case 1: return x.shelf(what);
            case 2: return x.apron(what);
            case 3: return x.stand(10, what);
            case 4: return x.setting(what);
            default: return x.sendAway(what);
        }
    }

    private static void whats(Due due) {
        OneCubeEach x = spender("9");
        for (int what : new int[] {-1, 2, 3, 256, Integer.MIN_VALUE, Integer.MAX_VALUE}) {
            due.be("-100000000: cubes(" + what + ")", x.cubes(what), ODD);
            due.be("-100000000: shelf(" + what + ")", x.shelf(what), ODD);
            due.be("-100000000: apron(" + what + ")", x.apron(what), ODD);
            due.be("-100000000: stand(5, " + what + ")", x.stand(5, what), ODD);
            due.be("-100000000: setting(" + what + ")", x.setting(what), ODD);
            due.be("-100000000: sendAway(" + what + ")", x.sendAway(what), ODD);
        }
    }

    public static void main(String[] args) {
        Due due = new Due();
        cubes(due);
        shelf(due);
        apron(due);
        stand(due);
        setting(due);
        sendAway(due);
        lost(due);
        anew(due);
        whats(due);
        due.end();
    }
}
