/** Promises 19 to 25: tells, film, sell, chance, image, back, count. */
public final class ToldTest {
    private static void tells(Due due, String when, OneCubeEach x, int... want) {
        for (int what = 0; what < want.length; what++) {
            due.be(when + ": tells(0, 0, " + what + ")", x.tells(0, 0, what), want[what]);
        }
    }

    private static void tells(Due due) {
        OneCubeEach x = Due.by("eats number + (cube < 3); odds 1; spends 1;");
        Due.read(x, "eats hour + hunger*0 + 1 - (2 < cube); odds 1; spends 1;");
        x.customer(0, 4, 4);
        Due.row(x, 0, 0, 5, 5, 4, 4);
        // a hungry one would eat 12; a pensioner four of four sorts at most
        tells(due, "as it is", x, OneCubeEach.NONE, 1, 16, 100, 0, 1023, 126, 6);
        Due.row(x, 0, 2, 5, 5, 4, 3);
        tells(due, "the last is otherwise", x, 3, 0, 0, 0, OneCubeEach.NONE, 0, 0, 0);
        x.set(3, 0, 0);
        Due.row(x, 0, 1, 5);
        tells(due, "not there", x, OneCubeEach.NONE, 1, 16, 100, 0, 1023, 126, 6);
        x.sheet(0, 2, 0);
        tells(due, "nothing is told", x, OneCubeEach.NONE, 63, 1023, 100, 0, 1023, 126, 7);
        Due.row(x, 0, 2, 5 + 256);
        due.be("an int is told whole", x.tells(0, 0, 0), 0);
        Due.row(x, 0, 0, 5 + 256);
        due.be("a byte is cut", x.tells(0, 0, 0), OneCubeEach.NONE);
        OneCubeEach y = Due.by("eats 1; odds 1; spends 1;");
        y.customer(3, 0, 0);
        Due.row(y, 0, 0, 6, 6);
        tells(due, "hungry", y, 0, 0, 0, 10, 40, 0, 0, 0);
        OneCubeEach z = Due.by("eats 9; odds 1; spends 1;");
        z.customer(2, 0, 0);
        Due.row(z, 0, 0, 4);
        tells(due, "by sorts", z, OneCubeEach.NONE, 4, 1023, 100, 0, 1023, 16, 2);
        due.be("all is as it was", z.told(0, 1), 4);
        due.be("the rule is as it was", z.count(5), 1);
        due.be("hunger is as it was", z.told(0, 7), 20);
        int[][] bad = {{-1, 0, 0}, {4, 0, 0}, {0, -1, 0}, {0, 1, 0}, {0, 0, -1}, {0, 0, 8}, {1, 1, 0}, {1, 0, 8}};
        for (int[] b : bad) {
            due.be("tells bad", z.tells(b[0], b[1], b[2]), OneCubeEach.BAD);
        }
        due.be("a sheet that is missing", z.tells(1, 0, 7), -11);
    }

    private static void film(Due due) {
        OneCubeEach x = Due.by("eats cube * 2; odds 1; spends 1;");
        x.customer(1, 0, 0);
        x.sheet(2, 2, 5);
        due.be("film(2, 0, 40)", x.film(2, 0, 40), 40);
        due.be("as filmed", x.tells(2, 0, 0), OneCubeEach.NONE);
        due.be("forty long", x.cell(2, 39, 98), 1);
        due.be("not longer", x.cell(2, 40, 0), -12);
        due.be("the last is otherwise", x.tells(2, 0, 0), 39);
        due.be("of bytes", x.customers(2, 1, 0, 0), -13);
        due.be("of bytes", x.customers(2, 0, 0, 0), 0);
        due.be("four, eight and more are no customers", x.customers(2, 0, 0, 1), 0);
        due.be("film(2, 0, 0)", x.film(2, 0, 0), 0);
        due.be("an empty one", x.cell(2, 0, 0), -12);
        due.be("the cube is as it was", x.told(0, 0), 10);
        int[][] bad = {{-1, 0, 0}, {4, 0, 0}, {0, -1, 0}, {0, 1, 0}, {0, 0, -1}, {0, 0, 41}};
        for (int[] b : bad) {
            due.be("film bad", x.film(b[0], b[1], b[2]), OneCubeEach.BAD);
        }
        due.be("no sheet came of it", x.cell(0, 0, 0), -11);
    }

    private static void sell(Due due) {
        OneCubeEach x = Due.by("eats 0; odds 1 + number; spends 10 + hour;");
        x.customer(0, 0, 1);
        x.customer(1, 0, 2);
        x.customer(0, 1, 3);
        x.customer(0, 2, 4);
        // z by 0: 12345, -740551042, 2109151391 by way of the int's 32 bits
        int z = 0;
        int want = 0;
        int[] tries = {1, 0, 2, 3};
        int[] bought = new int[4];
        for (int i = 0; i < 4; i++) {
            z = (int) (z * 1103515245L + 12345L);
            if (tries[i] != 0 && (z >>> 9) % tries[i] == 0) {
                want += 11 + i;
                bought[i] = 1;
            }
        }
        due.be("chance in thought", x.chance(0, 1, want, 0), 1);
        due.be("chance in thought", x.chance(0, 1, want + 1, 0), 0);
        due.be("nothing is bought in thought", x.count(2), 0);
        due.be("sell(0)", x.sell(0), want);
        for (int i = 0; i < 4; i++) {
            due.be("bought by " + i, x.told(i, 9), bought[i]);
        }
        int all = x.count(2);
        x.set(3, 0, 0);
        due.be("closed", x.sell(0), 0);
        due.be("none bought", x.count(2), all);
        x.set(3, 0, 2);
        for (int i = 0; i < 20; i++) {
            due.be("one surely buys", x.sell(i * 1000003), 11);
        }
        due.be("twenty more", x.told(0, 9), bought[0] + 20);
        OneCubeEach skip = Due.by("eats 0; odds 2; spends 10 + hour;");
        skip.customer(0, 0, 5);
        skip.customer(0, 0, 6);
        OneCubeEach only = Due.by("eats 0; odds 2; spends 10 + hour;");
        only.customer(0, 0, 6);
        skip.set(3, 0, 1 << 6);
        for (int seed = 0; seed < 40; seed++) {
            due.be("who is not there has no draw", skip.sell(seed << 7), only.sell(seed << 7));
        }
    }

    private static void chance(Due due) {
        OneCubeEach x = Due.by("eats 0; odds 3; spends 10;");
        x.customer(0, 0, 0);
        x.customer(0, 0, 0);
        for (int seed : new int[] {0, -7, Integer.MAX_VALUE - 3, 123456}) {
            int hits = 0;
            OneCubeEach y = Due.by("eats 0; odds 3; spends 10;");
            y.customer(0, 0, 0);
            y.customer(0, 0, 0);
            for (int i = 0; i < 12; i++) {
                if (y.sell(seed + i) >= 10) {
                    hits++;
                }
            }
            long above = x.chance(seed, 12, 10, 0);
            long below = x.chance(seed, 12, 10, 1);
            due.be("chance of " + seed, above * 12, hits * below);
            boolean lowest = true;
            for (long d = 2; d <= 12; d++) {
                lowest = lowest && (above % d != 0 || below % d != 0);
            }
            due.hold("lowest terms of " + seed, lowest && below > 0);
        }
        due.be("surely", x.chance(5, 20, 0, 0), 1);
        due.be("surely", x.chance(5, 20, 0, 1), 1);
        due.be("never", x.chance(5, 20, 9999, 0), 0);
        due.be("never", x.chance(5, 20, 9999, 1), 1);
        int[][] bad = {{0, 0, 0}, {-1, 0, 0}, {21, 0, 0}, {1, -1, 0}, {1, 10000, 0}, {1, 0, -1}, {1, 0, 2}};
        for (int[] b : bad) {
            due.be("chance bad", x.chance(0, b[0], b[1], b[2]), OneCubeEach.NO);
        }
        due.be("nothing was bought", x.count(2), 0);
    }

    private static void image(Due due) {
        OneCubeEach x = Due.by("eats 1; odds 1; spends 1;");
        due.be("back() without an image", x.back(), OneCubeEach.STATE);
        x.customer(2, 3, 4);
        x.customer(5, 6, 7);
        x.sell(1);
        due.be("image()", x.image(), 2);
        for (int turn = 0; turn < 2; turn++) {
            x.customer(0, 0, 0);
            int[] other = {1, 1, 0, 0, 99, 9, 9, 99};
            for (int what = 0; what < 8; what++) {
                x.set(what, 1, other[what]);
            }
            x.set(3, 0, 1023);
            x.sell(7);
            x.force(0);
            x.feed('e');
            x.sheet(1, 0, 3);
            due.be("back()", x.back(), 2);
            int[] want = {10, 4, 1, 1023, 2, 6, 7, 20, 5, 1};
            for (int what = 0; what < 10; what++) {
                due.be("back: told(1, " + what + ")", x.told(1, what), want[what]);
            }
            due.be("back: the rule", x.count(5), 1);
            due.be("back: customers", x.count(0), 2);
            due.be("the tape is not laid back", x.count(4), turn + 1);
            due.be("sheets are not laid back", x.cell(1, 2, 0), 1);
        }
        due.be("texts are not laid back", x.count(3), 2);
        due.be("the next has the number of one that went", x.customer(1, 1, 1), 2);
        due.be("and is new", x.told(2, 9), 0);
        due.be("another image", x.image(), 3);
        x.set(0, 0, 33);
        due.be("back to it", x.back(), 3);
        due.be("back to it", x.told(0, 0), 10);
        OneCubeEach none = new OneCubeEach();
        due.be("an image of none", none.image(), 0);
        none.customer(0, 0, 0);
        due.be("back to none", none.back(), 0);
        due.be("none is here", none.lost(0), OneCubeEach.BAD);
    }

    private static void count(Due due) {
        OneCubeEach x = Due.by("eats 1; odds 1; spends 1;");
        x.customer(0, 0, 0);
        x.customer(0, 0, 1);
        x.customer(1, 0, 2);
        x.sell(3);
        x.sell(4);
        x.set(3, 0, 5);
        x.feed(1);
        int[] want = {3, 2, 4, 2, 1, 1};
        for (int what = 0; what < 6; what++) {
            due.be("count(" + what + ")", x.count(what), want[what]);
        }
        for (int what : new int[] {-1, 6, Integer.MIN_VALUE, Integer.MAX_VALUE}) {
            due.be("count(" + what + ")", x.count(what), OneCubeEach.BAD);
        }
    }

    public static void main(String[] args) {
        Due due = new Due();
        tells(due);
        film(due);
        sell(due);
        chance(due);
        image(due);
        count(due);
        due.end();
    }
}
