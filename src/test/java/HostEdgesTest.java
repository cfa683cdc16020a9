/** The edges of SHEETS and the host (promises 26 to 30): each check bears the document's words. */
public final class HostEdgesTest {
    private static final int BAD = OneCubeEach.BAD, NOTHING = -11, OUTSIDE = -12, UNLIKE = -13, BELOW = -14;
    private static final int[] NO_SHEETS = {-1, 4, 5, Integer.MIN_VALUE, Integer.MAX_VALUE};

    /** Whose one CUSTOMER eats as he hungers, so that a cell of 0 .. 99 can be read. */
    private static OneCubeEach reader() {
        OneCubeEach x = Due.by("eats hunger;odds 1;spends 1;");
        x.customer(0, 0, 0);
        return x;
    }

    /** Reads cells by way of SHEET 3. */
    private static void cells(Due due, String words, OneCubeEach x, int sheet, int sort, int... want) {
        x.sheet(3, sort, 1);
        for (int i = 0; i < want.length; i++) {
            x.copy(sheet, i, 3, 0, 1);
            due.be(words + ": item " + i, x.tells(3, 0, 4), want[i]);
        }
        due.be(words + ": so many", x.copy(sheet, want.length, sheet, want.length, 0), 0);
        due.be(words + ": no more", x.copy(sheet, want.length + 1, sheet, want.length + 1, 0), OUTSIDE);
    }

    private static int[] upTo(int n) {
        int[] row = new int[n];
        for (int i = 0; i < n; i++) {
            row[i] = i + 1;
        }
        return row;
    }

    private static void sheet(Due due) {
        OneCubeEach x = reader();
        for (int sheet = 0; sheet < 4; sheet++) {
            due.be("missing (as all are at first)", x.cell(sheet, 0, 0), NOTHING);
            due.be("missing, to be so again", x.sheet(sheet, -1, 0), 1);
            due.be("missing (sort -1)", x.cell(sheet, 0, 0), NOTHING);
        }
        for (int sort = 0; sort < 3; sort++) {
            for (int n : new int[] {0, 1, 39, 40}) {
                due.be("a row of n of a sort", x.sheet(0, sort, n), 1);
                due.be("n items", x.copy(0, n, 0, n, 0), 0);
                due.be("no more", x.copy(0, n + 1, 0, n + 1, 0), OUTSIDE);
                for (int other = 0; other < 3; other++) {
                    due.be("of a sort", x.customers(0, other, 0, 0), other == sort ? 0 : UNLIKE);
                }
            }
            Due.row(x, 0, sort, 7, 8, 9);
            due.be("anew", x.sheet(0, sort, 4), 1);
            cells(due, "all 0", x, 0, sort, 0, 0, 0, 0);
        }
        for (int n : new int[] {0, 5, -1, 41, Integer.MIN_VALUE, Integer.MAX_VALUE}) {
            x.sheet(1, 1, 2);
            due.be("missing (sort -1: n does not matter)", x.sheet(1, -1, n), 1);
            due.be("is missing", x.cell(1, 0, 0), NOTHING);
        }
        Due.row(x, 2, 2, 7, 8, 9);
        for (int no : NO_SHEETS) {
            due.be("BAD: no such SHEET", x.sheet(no, 0, 1), BAD);
            due.be("BAD: no such SHEET, though missing", x.sheet(no, -1, 1), BAD);
            due.be("BAD ahead of -14", x.sheet(no, 0, -1), BAD);
        }
        for (int sort : new int[] {-2, 3, Integer.MIN_VALUE, Integer.MAX_VALUE}) {
            due.be("BAD: sort", x.sheet(2, sort, 1), BAD);
            due.be("BAD ahead of -14", x.sheet(2, sort, -1), BAD);
        }
        for (int sort = 0; sort < 3; sort++) {
            due.be("n above 40", x.sheet(2, sort, 41), BAD);
            due.be("n above 40", x.sheet(2, sort, Integer.MAX_VALUE), BAD);
            due.be("a size below 0", x.sheet(2, sort, -1), BELOW);
            due.be("a size below 0", x.sheet(2, sort, Integer.MIN_VALUE), BELOW);
        }
        cells(due, "a refusal changes nothing", x, 2, 2, 7, 8, 9);
    }

    private static void anew(Due due) {
        OneCubeEach x = reader();
        Due.row(x, 0, 2, upTo(40));
        x.sheet(0, 2, 40);
        cells(due, "all 0, of forty", x, 0, 2, new int[40]);
        Due.row(x, 0, 2, upTo(40));
        x.sheet(0, 2, 1);
        x.sheet(0, 2, 40);
        cells(due, "all 0, of forty, by way of one", x, 0, 2, new int[40]);
    }

    private static void cell(Due due) {
        int[] puts = {7, 256 + 7, 65536 + 7, -249, -65529, Integer.MIN_VALUE + 7, 0x7fff0007, 0x7fffff07};
        int[][] want = {{7, 7, 7}, {7, -1, -1}, {7, 7, -1}, {7, -1, -1}, {7, 7, -1}, {7, 7, -1}, {7, 7, -1}, {7, -1, -1}};
        OneCubeEach x = reader();
        for (int sort = 0; sort < 3; sort++) {
            x.sheet(0, sort, 1);
            for (int i = 0; i < puts.length; i++) {
                due.be("becomes v", x.cell(0, 0, puts[i]), 1);
                due.be("of bytes, shorts its lowest 8, 16 bits: sort " + sort + " of " + puts[i], x.tells(0, 0, 4), want[i][sort]);
            }
        }
        for (int n : new int[] {0, 1, 3, 40}) {
            x.sheet(1, 0, n);
            for (int i : new int[] {-1, n, n + 1, 40, Integer.MIN_VALUE, Integer.MAX_VALUE}) {
                due.be("-12: item " + i + " of " + n, x.cell(1, i, 5), OUTSIDE);
            }
            if (n > 0) {
                due.be("the first", x.cell(1, 0, 5), 1);
                due.be("the last", x.cell(1, n - 1, 6), 1);
            }
        }
        Due.row(x, 2, 0, 1, 2, 3);
        x.cell(2, 1, 9);
        x.cell(2, -1, 8);
        x.cell(2, 3, 8);
        cells(due, "Item i, no other", x, 2, 0, 1, 9, 3);
        x.sheet(3, -1, 0);
        for (int no : NO_SHEETS) {
            due.be("BAD: no such SHEET", x.cell(no, 0, 0), BAD);
            due.be("BAD ahead of -12", x.cell(no, -1, 0), BAD);
        }
        due.be("-11 ahead of -12", x.cell(3, -1, 0), NOTHING);
        due.be("-11", x.cell(3, 0, 0), NOTHING);
    }

    private static void copy(Due due) {
        for (int sort = 0; sort < 3; sort++) {
            OneCubeEach x = reader();
            Due.row(x, 0, sort, 1, 2, 3, 4, 5, 6);
            Due.row(x, 1, sort, 11, 12, 13);
            due.be("n numbers", x.copy(0, 3, 1, 0, 3), 3);
            cells(due, "come to another one", x, 1, sort, 4, 5, 6);
            cells(due, "and stay", x, 0, sort, 1, 2, 3, 4, 5, 6);
            due.be("one number to the last item", x.copy(0, 0, 1, 2, 1), 1);
            cells(due, "one number", x, 1, sort, 4, 5, 1);
            due.be("to itself, onward", x.copy(0, 0, 0, 2, 4), 4);
            cells(due, "as they were, onward", x, 0, sort, 1, 2, 1, 2, 3, 4);
            due.be("to itself, backward", x.copy(0, 1, 0, 0, 5), 5);
            cells(due, "as they were, backward", x, 0, sort, 2, 1, 2, 3, 4, 4);
            due.be("to itself, all", x.copy(0, 0, 0, 0, 6), 6);
            cells(due, "as they were, in place", x, 0, sort, 2, 1, 2, 3, 4, 4);
            due.be("none", x.copy(0, 0, 1, 0, 0), 0);
            due.be("none, at both ends", x.copy(0, 6, 1, 3, 0), 0);
            cells(due, "none came", x, 1, sort, 4, 5, 1);
        }
        OneCubeEach x = reader();
        Due.row(x, 0, 2, upTo(40));
        x.sheet(1, 2, 40);
        due.be("forty", x.copy(0, 0, 1, 0, 40), 40);
        cells(due, "forty", x, 1, 2, upTo(40));
    }

    private static void copyRefused(Due due) {
        OneCubeEach x = reader();
        Due.row(x, 0, 2, 1, 2, 3, 4, 5, 6);
        Due.row(x, 1, 2, 11, 12, 13);
        int max = Integer.MAX_VALUE;
        int min = Integer.MIN_VALUE;
        int[][] outside = {{0, 0, -1}, {6, 3, -1}, {0, 0, min}, {-1, 0, 0}, {0, -1, 0}, {-1, 0, 1}, {0, -1, 1}, {7, 0, 0}, {0, 4, 0},
            {6, 0, 1}, {0, 3, 1}, {4, 0, 3}, {0, 1, 3}, {0, 0, 4}, {max, 0, 1}, {0, max, 1}, {1, 0, max}, {0, 1, max}, {max, max, max},
            {min, 0, 0}, {0, min, 0}, {min, min, min}, {max, 0, 0}, {0, max, 0}, {-3, 0, 3}, {0, -3, 3}};
        for (int[] o : outside) {
            due.be("-12: copy(0, " + o[0] + ", 1, " + o[1] + ", " + o[2] + ")", x.copy(0, o[0], 1, o[1], o[2]), OUTSIDE);
        }
        cells(due, "a refusal changes nothing", x, 0, 2, 1, 2, 3, 4, 5, 6);
        cells(due, "a refusal changes nothing", x, 1, 2, 11, 12, 13);
        x.sheet(3, -1, 0);
        for (int no : NO_SHEETS) {
            due.be("BAD: no such SHEET", x.copy(no, 0, 1, 0, 0), BAD);
            due.be("BAD: no such other", x.copy(0, 0, no, 0, 0), BAD);
            due.be("BAD ahead of -11", x.copy(3, 0, no, 0, 0), BAD);
            due.be("BAD ahead of -11", x.copy(no, 0, 3, 0, 0), BAD);
            due.be("BAD ahead of -12", x.copy(no, -1, 1, 0, 0), BAD);
        }
        due.be("-11", x.copy(3, 0, 1, 0, 0), NOTHING);
        due.be("-11 of the other", x.copy(1, 0, 3, 0, 0), NOTHING);
        due.be("-11 of both", x.copy(3, 0, 3, 0, 0), NOTHING);
        due.be("-11 ahead of -12", x.copy(1, -1, 3, -1, -1), NOTHING);
        for (int sort = 0; sort < 2; sort++) {
            x.sheet(2, sort, 6);
            due.be("-13: they are of unlike sorts", x.copy(0, 0, 2, 0, 1), UNLIKE);
            due.be("-13: they are of unlike sorts", x.copy(2, 0, 0, 0, 1), UNLIKE);
            due.be("-13, though none is to come", x.copy(2, 0, 0, 0, 0), UNLIKE);
            due.be("-13 ahead of -12", x.copy(2, -1, 0, 0, -1), UNLIKE);
        }
        cells(due, "a refusal changes nothing", x, 0, 2, 1, 2, 3, 4, 5, 6);
    }

    private static void customers(Due due) {
        for (int sort = 0; sort < 3; sort++) {
            OneCubeEach x = new OneCubeEach();
            int[] row = new int[24];
            for (int i = 0; i < 8; i++) {
                row[3 * i] = i % 6;
                row[3 * i + 1] = 9 - i;
                row[3 * i + 2] = i + 2;
            }
            Due.row(x, 0, sort, row);
            due.be("n of them (0 .. 8): none", x.customers(0, sort, 0, 0), 0);
            due.be("none came", x.count(0), 0);
            due.be("eight", x.customers(0, sort, 0, 8), 8);
            for (int i = 0; i < 8; i++) {
                due.be("three by three: KIND " + i, x.told(i, 8), i % 6);
                due.be("three by three: NUMBER " + i, x.told(i, 5), 9 - i);
                due.be("three by three: HOUR " + i, x.told(i, 6), i + 2);
                due.be("as of customer(): HUNGER " + i, x.told(i, 7), 20);
            }
            due.be("no room: left out", x.customers(0, sort, 0, 8), 0);
            due.be("no room, and a place outside", x.customers(0, sort, 3, 8), OUTSIDE);
            due.be("eight at most", x.count(0), 8);
        }
        OneCubeEach x = new OneCubeEach();
        Due.row(x, 0, 2, 0, 0, 0, 6, 0, 0, -1, 0, 0, 0, 10, 0, 0, -1, 0, 0, 0, 10, 0, 0, -1, 5, 9, 9);
        due.be("others are left out", x.customers(0, 2, 0, 8), 2);
        due.be("the last came", x.told(1, 8), 5);
        Due.row(x, 1, 0, 0, 0, 0, 256 + 1, 2, 3);
        due.be("a byte's lowest 8 bits", x.customers(1, 0, 3, 1), 1);
        due.be("a byte's lowest 8 bits", x.told(2, 8), 1);
        Due.row(x, 1, 2, 256 + 1, 2, 3);
        due.be("an int, whole, is none", x.customers(1, 2, 0, 1), 0);
        due.be("from one on", x.customers(0, 2, 21, 1), 1);
        due.be("from one on", x.told(3, 8), 5);
    }

    private static void outsideCustomers(Due due) {
        // From which on, how many are asked for, how many have their three items.
        int[][] rows = {{0, 3, 8}, {0, 8, 8}, {1, 2, 7}, {2, 1, 7}, {21, 1, 1}, {21, 2, 1}, {22, 1, 0}, {23, 1, 0}, {24, 1, 0},
            {25, 1, 0}, {-1, 1, 0}, {-3, 2, 0}, {-1, 8, 0}, {Integer.MIN_VALUE, 8, 0}, {Integer.MAX_VALUE, 8, 0},
            {Integer.MAX_VALUE - 2, 8, 0}, {Integer.MAX_VALUE - 1, 2, 0}, {18, 3, 2}, {3, 8, 7}, {1, 8, 7}};
        for (int[] row : rows) {
            OneCubeEach x = new OneCubeEach();
            x.sheet(0, 1, 24);
            int n = row[1];
            int fit = row[2];
            boolean all = n <= fit;
            int came = all ? n : fit;
            String call = "customers(0, 1, " + row[0] + ", " + n + ")";
            due.be("-12: " + call, x.customers(0, 1, row[0], n), all ? n : OUTSIDE);
            due.be("what stood ahead came: " + call, x.count(0), came);
        }
        OneCubeEach x = new OneCubeEach();
        x.sheet(0, 1, 0);
        due.be("-12 of nothing", x.customers(0, 1, 0, 1), OUTSIDE);
        for (int from : new int[] {0, -1, 1, 40, Integer.MIN_VALUE, Integer.MAX_VALUE}) {
            due.be("n 0 asks for no place", x.customers(0, 1, from, 0), 0);
        }
        Due.row(x, 0, 1, 9, 9, 9, 1, 2, 3, 4);
        due.be("one left out, one came, half a one", x.customers(0, 1, 0, 3), OUTSIDE);
        due.be("what stood ahead came", x.count(0), 1);
        due.be("what stood ahead came", x.told(0, 8), 1);
    }

    private static void customersRefused(Due due) {
        OneCubeEach x = new OneCubeEach();
        x.sheet(0, 1, 9);
        for (int no : NO_SHEETS) {
            due.be("BAD: no such SHEET", x.customers(no, 1, 0, 1), BAD);
        }
        for (int sort : new int[] {-1, -2, 3, Integer.MIN_VALUE, Integer.MAX_VALUE}) {
            due.be("BAD: sort " + sort, x.customers(0, sort, 0, 1), BAD);
            due.be("BAD: sort " + sort + " ahead of -11", x.customers(1, sort, 0, 1), BAD);
        }
        for (int n : new int[] {-1, 9, Integer.MIN_VALUE, Integer.MAX_VALUE}) {
            due.be("BAD: n " + n, x.customers(0, 1, 0, n), BAD);
            due.be("BAD: n " + n + " ahead of -13", x.customers(0, 2, 0, n), BAD);
            due.be("BAD: n " + n + " ahead of -11", x.customers(1, 1, 0, n), BAD);
        }
        for (int sort = 0; sort < 3; sort += 2) {
            due.be("-13: a thing of another sort", x.customers(0, sort, 0, 1), UNLIKE);
            due.be("-13 ahead of -12", x.customers(0, sort, -1, 1), UNLIKE);
            due.be("-13, though none is to come", x.customers(0, sort, 0, 0), UNLIKE);
        }
        for (int sort = 0; sort < 3; sort++) {
            due.be("-11: nothing is of no other sort", x.customers(1, sort, 0, 1), NOTHING);
            due.be("-11 ahead of -12", x.customers(1, sort, -1, 1), NOTHING);
            due.be("-11, though none is to come", x.customers(1, sort, 0, 0), NOTHING);
        }
        due.be("a refusal changes nothing", x.count(0), 0);
    }

    private static void taken(Due due) {
        String[] under = {"0", "01", "02", "013", "024", "05"};
        for (int kind = 0; kind < 6; kind++) {
            OneCubeEach x = new OneCubeEach();
            x.customer(kind, 0, 0);
            for (int number : new int[] {0, 9}) {
                x.set(5, 0, number);
                for (int k = 0; k < 6; k++) {
                    boolean is = under[kind].indexOf('0' + k) >= 0;
                    due.be("of KIND k, or one under that one: " + kind + ", " + k, x.taken(0, k), is ? number : UNLIKE);
                }
            }
            for (int k : new int[] {-1, 6, 7, Integer.MIN_VALUE, Integer.MAX_VALUE}) {
                due.be("BAD: k " + k, x.taken(0, k), BAD);
                due.be("BAD: k " + k + " ahead of -11", x.taken(1, k), BAD);
            }
            for (int i : new int[] {-1, 1, 8, Integer.MIN_VALUE, Integer.MAX_VALUE}) {
                due.be("-11: no such CUSTOMER, " + i, x.taken(i, kind), NOTHING);
                due.be("-11 ahead of -13, " + i, x.taken(i, (kind + 1) % 6), NOTHING);
            }
        }
        OneCubeEach x = new OneCubeEach();
        for (int i = 0; i < 8; i++) {
            x.customer(4, i, 0);
        }
        due.be("the eighth, not THERE", x.set(3, 0, 0), 1023);
        due.be("the eighth", x.taken(7, 2), 7);
    }

    public static void main(String[] args) {
        Due due = new Due();
        sheet(due);
        anew(due);
        cell(due);
        copy(due);
        copyRefused(due);
        customers(due);
        outsideCustomers(due);
        customersRefused(due);
        taken(due);
        due.end();
    }
}
