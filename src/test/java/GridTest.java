/**
 * Calls with arguments from lists of edges (too small, too large, far away), each with each, on an object that is new,
 * one that is in use and one that is full, beside the model.
 */
public final class GridTest {
    private static final int MIN = Integer.MIN_VALUE, MAX = Integer.MAX_VALUE;
    private static final int[] WIDE = {MIN, MIN + 1, -100000000, -101, -100, -12, -11, -4, -3, -2, -1, 0, 1, 2, 3, 4, 5, 6, 7, 8,
        9, 10, 11, 12, 13, 14, 15, 16, 19, 20, 21, 39, 40, 41, 98, 99, 100, 159, 160, 255, 256, 999, 1000, 1022, 1023, 1024, 9999,
        10000, 65535, 65536, MAX - 1, MAX};
    private static final int[] SMALL = {MIN, -2, -1, 0, 1, 2, 3, 4, 5, 6, 7, 8, 9, 10, MAX};
    private static final int[] SHEETS = {MIN, -1, 0, 1, 2, 3, 4, MAX};
    private static final int[] SORTS = {MIN, -2, -1, 0, 1, 2, 3, MAX};
    private static final int[] PLACES = {MIN, -3, -1, 0, 1, 3, 4, 5, 38, 39, 40, 41, MAX - 1, MAX};
    private static final int[] SIZES = {MIN, -1, 0, 1, 2, 8, 9, 39, 40, 41, MAX};
    private static final int ROOM = 120;

    private final Due due = new Due();
    private OneCubeEach x;
    private Model y;
    private int state;
    private int left;

    private void make() {
        x = new OneCubeEach();
        y = new Model();
        left = ROOM;
        if (state == 0) {
            return;
        }
        read("eats hunger+cube*0;odds 1+number;spends 9+hour;");
        x.force(1);
        y.force(1);
        for (int i = 0; i < (state == 1 ? 3 : 8); i++) {
            x.customer(i % 6, i, i + 1);
            y.customer(i % 6, i, i + 1);
        }
        row(0, 0, 1, 2, 3, 5, 6, 7);
        row(1, 1, 1, 2, 3, 5, 6);
        row(2, 2, 20, 20);
        if (state == 1) {
            x.image();
            y.image();
            feed("eats");
        } else {
            for (int i = 2; i < 6; i++) {
                read("eats " + i + ";odds 1;spends 9;");
            }
            feed(" ".repeat(160));
            x.set(3, 0, 85);
            y.set(3, 0, 85);
        }
    }

    private void feed(String letters) {
        for (char c : letters.toCharArray()) {
            x.feed(c);
            y.feed(c);
        }
    }

    private void read(String text) {
        feed(text);
        same("text", x.text(), y.text());
    }

    private void row(int sheet, int sort, int... cells) {
        x.sheet(sheet, sort, cells.length);
        y.sheet(sheet, sort, cells.length);
        for (int i = 0; i < cells.length; i++) {
            x.cell(sheet, i, cells[i]);
            y.cell(sheet, i, cells[i]);
        }
    }

    private void same(String call, long got, long want) {
        left--;
        due.be("state " + state + ": " + call, got, want);
    }

    /** Ahead of some calls: a new pair of objects, if the old one has been used enough (512 calls are too many). */
    private void next() {
        if (left <= 0) {
            make();
        }
    }

    private void oneEach() {
        for (int a : WIDE) {
            next();
            same("feed " + a, x.feed(a), y.feed(a));
            same("force " + a, x.force(a), y.force(a));
            same("board " + a, x.board(a), y.board(a));
            same("fair " + a, x.fair(a), y.fair(a));
            same("buysOne " + a, x.buysOne(a), y.buysOne(a));
            same("cubes " + a, x.cubes(a), y.cubes(a));
            same("shelf " + a, x.shelf(a), y.shelf(a));
            same("apron " + a, x.apron(a), y.apron(a));
            same("setting " + a, x.setting(a), y.setting(a));
            same("sendAway " + a, x.sendAway(a), y.sendAway(a));
            same("lost " + a, x.lost(a), y.lost(a));
            same("sell " + a, x.sell(a), y.sell(a));
            same("count " + a, x.count(a), y.count(a));
            left = 0;
        }
    }

    private void twoEach() {
        for (int a : SMALL) {
            for (int b : WIDE) {
                next();
                same("told " + a + " " + b, x.told(a, b), y.told(a, b));
                same("hour " + a + " " + b, x.hour(a, b), y.hour(a, b));
                same("hour " + b + " " + a, x.hour(b, a), y.hour(b, a));
                same("stand " + b + " " + a, x.stand(b, a), y.stand(b, a));
                same("taken " + a + " " + b, x.taken(a, b), y.taken(a, b));
                same("taken " + b + " " + a, x.taken(b, a), y.taken(b, a));
            }
        }
    }

    private void threeEach() {
        for (int a : SMALL) {
            for (int b : SMALL) {
                for (int c : WIDE) {
                    next();
                    same("set " + a + " " + b + " " + c, x.set(a, b, c), y.set(a, b, c));
                }
                for (int c : SMALL) {
                    next();
                    same("customer " + a + " " + b + " " + c, x.customer(a, b, c), y.customer(a, b, c));
                }
            }
        }
    }

    private void sheetEach() {
        for (int sheet : SHEETS) {
            for (int sort : SORTS) {
                for (int n : SIZES) {
                    next();
                    same("sheet " + sheet + " " + sort + " " + n, x.sheet(sheet, sort, n), y.sheet(sheet, sort, n));
                }
                left = 0;
                for (int from : PLACES) {
                    for (int n : SIZES) {
                        next();
                        String call = "customers " + sheet + " " + sort + " " + from + " " + n;
                        same(call, x.customers(sheet, sort, from, n), y.customers(sheet, sort, from, n));
                        same(call + ", came", x.count(0), y.count(0));
                    }
                    left = 0;
                }
            }
            for (int i : PLACES) {
                for (int v : new int[] {MIN, -1, 0, 127, 128, 255, 256, 32768, 65535, 65536, MAX}) {
                    next();
                    same("cell " + sheet + " " + i + " " + v, x.cell(sheet, i, v), y.cell(sheet, i, v));
                }
            }
            left = 0;
            for (int of : SMALL) {
                for (int what = -1; what < 9; what++) {
                    next();
                    same("tells " + sheet + " " + of + " " + what, x.tells(sheet, of, what), y.tells(sheet, of, what));
                }
            }
            for (int of : SMALL) {
                for (int n : SIZES) {
                    next();
                    same("film " + sheet + " " + of + " " + n, x.film(sheet, of, n), y.film(sheet, of, n));
                    same("filmed", x.tells(0, 0, 0), y.tells(0, 0, 0));
                }
            }
            left = 0;
        }
    }

    private void copyEach() {
        int[] places = {MIN, -1, 0, 1, 2, 5, 6, 7, MAX};
        for (int sheet : SHEETS) {
            for (int other : SHEETS) {
                for (int i : places) {
                    for (int j : places) {
                        for (int n : places) {
                            next();
                            String call = "copy " + sheet + " " + i + " " + other + " " + j + " " + n;
                            same(call, x.copy(sheet, i, other, j, n), y.copy(sheet, i, other, j, n));
                        }
                    }
                }
            }
        }
    }

    private void chanceEach() {
        for (int seed : new int[] {MIN, 0, 7, MAX}) {
            for (int m : new int[] {MIN, -1, 0, 1, 2, 19, 20, 21, MAX}) {
                for (int k : new int[] {MIN, -1, 0, 1, 10, 30, 9999, 10000, MAX}) {
                    for (int part : new int[] {MIN, -1, 0, 1, 2, MAX}) {
                        next();
                        String call = "chance " + seed + " " + m + " " + k + " " + part;
                        same(call, x.chance(seed, m, k, part), y.chance(seed, m, k, part));
                    }
                }
            }
        }
    }

    public static void main(String[] args) {
        GridTest test = new GridTest();
        for (int state = 0; state < 3; state++) {
            test.state = state;
            test.left = 0;
            test.oneEach();
            test.twoEach();
            test.threeEach();
            test.sheetEach();
            test.copyEach();
            test.chanceEach();
        }
        test.due.end();
    }
}
