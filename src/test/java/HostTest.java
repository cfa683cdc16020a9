/** Promises 26 to 30: sheet, cell, copy, customers, taken. */
public final class HostTest {
    private static final int BAD = OneCubeEach.BAD;

    private static void sheet(Due due) {
        OneCubeEach x = new OneCubeEach();
        for (int sheet = 0; sheet < 4; sheet++) {
            for (int sort = 0; sort < 3; sort++) {
                due.be("sheet of 40", x.sheet(sheet, sort, 40), 1);
                due.be("its last", x.cell(sheet, 39, 1), 1);
                due.be("behind it", x.cell(sheet, 40, 1), -12);
                due.be("sheet of 0", x.sheet(sheet, sort, 0), 1);
                due.be("behind it", x.cell(sheet, 0, 1), -12);
            }
            due.be("missing", x.sheet(sheet, -1, Integer.MIN_VALUE), 1);
            due.be("missing", x.cell(sheet, 0, 1), -11);
        }
        x.sheet(0, 2, 3);
        int[][] bad = {{-1, 0, 1}, {4, 0, 1}, {0, -2, 1}, {0, 3, 1}, {0, 0, 41}, {0, 0, Integer.MAX_VALUE}, {0, 3, -1},
            {4, -1, 0}};
        for (int[] b : bad) {
            due.be("sheet bad", x.sheet(b[0], b[1], b[2]), BAD);
        }
        due.be("below 0", x.sheet(0, 0, -1), -14);
        due.be("below 0", x.sheet(0, 2, Integer.MIN_VALUE), -14);
        due.be("a refusal changes nothing", x.customers(0, 2, 0, 1), 1);
        Due.row(x, 1, 1, 7, 8, 9);
        x.sheet(1, 1, 3);
        due.be("all 0 anew", x.customers(1, 1, 0, 1), 1);
    }

    private static void cell(Due due) {
        OneCubeEach x = Due.by("eats 5; odds 1; spends 1;");
        x.customer(0, 0, 0);
        int[][] cuts = {{256 + 5, 65536 + 5, 5}, {-251, -65531, 5}};
        for (int[] v : cuts) {
            for (int sort = 0; sort < 3; sort++) {
                x.sheet(0, sort, 1);
                for (int k = 0; k < 3; k++) {
                    due.be("cell", x.cell(0, 0, v[k]), 1);
                    boolean five = v[k] == 5 || k == 0 && sort == 0 || k == 1 && sort < 2;
                    due.be("sort " + sort + " of " + v[k], x.tells(0, 0, 0), five ? -1 : 0);
                }
            }
        }
        due.be("cell(-1)", x.cell(-1, 0, 0), BAD);
        due.be("cell(4)", x.cell(4, 0, 0), BAD);
        due.be("missing", x.cell(1, 99, 0), -11);
        for (int i : new int[] {-1, 1, Integer.MIN_VALUE, Integer.MAX_VALUE}) {
            due.be("outside", x.cell(0, i, 0), -12);
        }
    }

    /** What the ints of a sheet are: rows of one cell each tell them one by one. */
    private static void cells(Due due, String when, OneCubeEach x, int sheet, int... want) {
        for (int i = 0; i < want.length; i++) {
            OneCubeEach y = x;
            y.sheet(3, 2, 1);
            y.copy(sheet, i, 3, 0, 1);
            y.set(7, 0, want[i]);
            due.be(when + " [" + i + "]", y.tells(3, 0, 0), OneCubeEach.NONE);
        }
    }

    private static void copy(Due due) {
        OneCubeEach x = Due.by("eats hunger; odds 1; spends 1;");
        x.customer(0, 0, 0);
        Due.row(x, 0, 2, 1, 2, 3, 4, 5);
        Due.row(x, 1, 2, 6, 7, 8);
        due.be("copy", x.copy(0, 1, 1, 0, 2), 2);
        cells(due, "copied", x, 1, 2, 3, 8);
        cells(due, "left", x, 0, 1, 2, 3, 4, 5);
        due.be("within one, onward", x.copy(0, 0, 0, 1, 4), 4);
        cells(due, "as they were", x, 0, 1, 1, 2, 3, 4);
        due.be("within one, backward", x.copy(0, 1, 0, 0, 4), 4);
        cells(due, "as they were", x, 0, 1, 2, 3, 4, 4);
        due.be("none, at the end", x.copy(0, 5, 1, 3, 0), 0);
        int[][] outside = {{-1, 0, 1}, {0, -1, 1}, {0, 0, -1}, {5, 0, 1}, {0, 3, 1}, {6, 0, 0}, {0, 4, 0}, {3, 0, 3},
            {0, 1, 3}, {0, 0, 4}, {Integer.MAX_VALUE, 0, 1}, {1, 1, Integer.MAX_VALUE}, {0, 0, Integer.MIN_VALUE},
            {Integer.MIN_VALUE, 0, Integer.MIN_VALUE}};
        for (int[] o : outside) {
            due.be("outside " + o[0] + " " + o[1] + " " + o[2], x.copy(0, o[0], 1, o[1], o[2]), -12);
        }
        cells(due, "unchanged", x, 1, 2, 3, 8);
        due.be("no such sheet", x.copy(-1, 0, 0, 0, 0), BAD);
        due.be("no such sheet", x.copy(0, 0, 4, 0, 0), BAD);
        due.be("no such sheet ahead of missing", x.copy(2, 0, 4, 0, 0), BAD);
        due.be("missing", x.copy(2, 0, 0, 0, 0), -11);
        due.be("missing", x.copy(0, 0, 2, -1, -1), -11);
        x.sheet(2, 1, 5);
        due.be("unlike", x.copy(0, 0, 2, 0, 1), -13);
        due.be("unlike ahead of outside", x.copy(2, -1, 0, 9, -9), -13);
    }

    private static void customers(Due due) {
        OneCubeEach x = new OneCubeEach();
        Due.row(x, 0, 0, 9, 1, 2, 3, 6, 0, 0, 5, 9, 9, 0, 0, 10, 4, 4);
        due.be("customers(0, 0, 1, 4)", x.customers(0, 0, 1, 4), 2);
        int[][] want = {{1, 2, 3}, {5, 9, 9}};
        for (int i = 0; i < 2; i++) {
            due.be("kind", x.told(i, 8), want[i][0]);
            due.be("number", x.told(i, 5), want[i][1]);
            due.be("hour", x.told(i, 6), want[i][2]);
        }
        due.be("what stood ahead came", x.customers(0, 0, 7, 3), -12);
        due.be("one more", x.count(0), 3);
        due.be("none of half a one", x.customers(0, 0, 13, 1), -12);
        due.be("none of half a one", x.count(0), 3);
        for (int from : new int[] {-1, -3, 15, Integer.MIN_VALUE, Integer.MAX_VALUE, Integer.MAX_VALUE - 1}) {
            due.be("from " + from, x.customers(0, 0, from, 1), -12);
            due.be("none from " + from, x.customers(0, 0, from, 0), 0);
        }
        int[][] bad = {{-1, 0, 0}, {4, 0, 0}, {0, -1, 0}, {0, 3, 0}, {0, 0, -1}, {0, 0, 9}, {1, 3, 0}};
        for (int[] b : bad) {
            due.be("customers bad", x.customers(b[0], b[1], 0, b[2]), BAD);
        }
        due.be("unlike", x.customers(0, 1, 0, 0), -13);
        due.be("unlike", x.customers(0, 2, 99, 8), -13);
        for (int sort = 0; sort < 3; sort++) {
            due.be("missing", x.customers(1, sort, 0, 0), -11);
        }
        x.sheet(2, 1, 24);
        due.be("as many as have room", x.customers(2, 1, 0, 8), 5);
        due.be("full", x.count(0), 8);
        due.be("none more", x.customers(2, 1, 0, 8), 0);
        due.be("outside, though full", x.customers(2, 1, 3, 8), -12);
    }

    private static void taken(Due due) {
        OneCubeEach x = new OneCubeEach();
        boolean[][] under = {
            {true, false, false, false, false, false},
            {true, true, false, false, false, false},
            {true, false, true, false, false, false},
            {true, true, false, true, false, false},
            {true, false, true, false, true, false},
            {true, false, false, false, false, true},
        };
        for (int kind = 0; kind < 6; kind++) {
            x.customer(kind, kind + 3, 0);
            for (int k = 0; k < 6; k++) {
                due.be("taken(" + kind + ", " + k + ")", x.taken(kind, k), under[kind][k] ? kind + 3 : -13);
            }
        }
        for (int k : new int[] {-1, 6, Integer.MIN_VALUE, Integer.MAX_VALUE}) {
            due.be("no such kind", x.taken(0, k), BAD);
            due.be("no such kind ahead of no such customer", x.taken(9, k), BAD);
        }
        for (int i : new int[] {-1, 6, 8, Integer.MIN_VALUE, Integer.MAX_VALUE}) {
            due.be("no such customer", x.taken(i, 0), -11);
        }
    }

    public static void main(String[] args) {
        Due due = new Due();
        sheet(due);
        cell(due);
        copy(due);
        customers(due);
        taken(due);
        due.end();
    }
}
