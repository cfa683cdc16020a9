/** Promises 1 to 4: a new object, set, customer, told. */
public final class BoardTest {
    private static final int ODD = -100000000;

    private static void aNewObject(Due due) {
        OneCubeEach x = new OneCubeEach();
        int[] first = {10, 4, 1, 1023, 2};
        for (int what = 0; what < first.length; what++) {
            due.be("new: told(-1, " + what + ")", x.told(-1, what), first[what]);
        }
        due.be("new: told(0, 5)", x.told(0, 5), ODD);
        int[] counts = {0, 10, 0, 1, 0, 0};
        for (int what = 0; what < counts.length; what++) {
            due.be("new: count(" + what + ")", x.count(what), counts[what]);
        }
        due.be("new: back()", x.back(), OneCubeEach.STATE);
        for (int sheet = 0; sheet < 4; sheet++) {
            due.be("new: cell(" + sheet + ", 0, 0)", x.cell(sheet, 0, 0), -11);
        }
    }

    private static void set(Due due) {
        int[] least = {1, 1, 0, 0, 0, 0, 0, 0};
        int[] most = {40, 6, 1, 1023, 99, 9, 9, 99};
        int[] was = {10, 4, 1, 1023, 2, 3, 5, 20};
        for (int what = 0; what < 8; what++) {
            OneCubeEach x = new OneCubeEach();
            x.customer(0, 3, 5);
            String call = "set(" + what + ", ";
            due.be(call + "below)", x.set(what, 0, least[what] - 1), OneCubeEach.BAD);
            due.be(call + "above)", x.set(what, 0, most[what] + 1), OneCubeEach.BAD);
            due.be(call + "far)", x.set(what, 0, Integer.MIN_VALUE), OneCubeEach.BAD);
            due.be(call + "unchanged)", x.told(0, what), was[what]);
            due.be(call + "least)", x.set(what, 0, least[what]), was[what]);
            due.be(call + "most)", x.set(what, 0, most[what]), least[what]);
            due.be(call + "told)", x.told(0, what), most[what]);
            int other = what < 5 ? most[what] : OneCubeEach.BAD;
            due.be(call + "of 1)", x.set(what, 1, most[what]), other);
            due.be(call + "of -1)", x.set(what, -1, most[what]), other);
        }
        OneCubeEach x = new OneCubeEach();
        x.customer(0, 3, 5);
        due.be("set(8)", x.set(8, 0, 1), OneCubeEach.BAD);
        due.be("set(-1)", x.set(-1, 0, 1), OneCubeEach.BAD);
        due.be("set(min)", x.set(Integer.MIN_VALUE, 0, 1), OneCubeEach.BAD);
    }

    private static void customer(Due due) {
        OneCubeEach x = new OneCubeEach();
        int[][] bad = {{-1, 0, 0}, {6, 0, 0}, {0, -1, 0}, {0, 10, 0}, {0, 0, -1}, {0, 0, 10}};
        for (int[] b : bad) {
            due.be("customer bad", x.customer(b[0], b[1], b[2]), OneCubeEach.BAD);
        }
        for (int i = 0; i < 8; i++) {
            due.be("customer " + i, x.customer(i % 6, 9 - i, i + 2), i);
        }
        due.be("customer full", x.customer(0, 0, 0), OneCubeEach.FULL);
        due.be("customer bad ahead of full", x.customer(6, 0, 0), OneCubeEach.BAD);
        for (int i = 0; i < 8; i++) {
            due.be("number " + i, x.told(i, 5), 9 - i);
            due.be("hour " + i, x.told(i, 6), i + 2);
            due.be("hunger " + i, x.told(i, 7), 20);
            due.be("kind " + i, x.told(i, 8), i % 6);
            due.be("bought " + i, x.told(i, 9), 0);
        }
    }

    private static void kinds(Due due, String text, int girl, int sorts, int[][] want) {
        OneCubeEach x = Due.by(text);
        x.set(1, 0, sorts);
        x.set(2, 0, girl);
        for (int kind = 0; kind < 6; kind++) {
            x.customer(kind, 7, 3);
            x.set(7, kind, 99);
            for (int what = 0; what < 3; what++) {
                due.be(text + " girl " + girl + " sorts " + sorts + ": told(" + kind + ", " + (10 + what) + ")",
                    x.told(kind, 10 + what), want[kind][what]);
            }
        }
    }

    private static void told(Due due) {
        kinds(due, "eats 5; odds 6; spends 31;", 1, 4,
            new int[][] {{5, 6, 31}, {10, 0, 0}, {4, 12, 15}, {19, 13, 3}, {1, 0, 15}, {1, 1, 101}});
        kinds(due, "eats 5; odds 6; spends 31;", 0, 3,
            new int[][] {{5, 6, 31}, {10, 0, 0}, {3, 12, 15}, {19, 13, 3}, {3, 0, 15}, {1, 6, 101}});
        kinds(due, "eats 9999; odds 9999; spends 9999;", 0, 6,
            new int[][] {{99, 99, 99}, {99, 0, 0}, {6, 99, 49}, {99, 99, 3}, {6, 0, 49}, {1, 1, 169}});
        kinds(due, "eats -1; odds -1; spends -1;", 1, 1,
            new int[][] {{0, 0, 0}, {0, 0, 0}, {0, 0, 0}, {9, 7, 3}, {1, 0, 0}, {0, 0, 70}});
        OneCubeEach x = Due.by("eats 7; odds 8; spends 9;");
        x.customer(0, 1, 2);
        x.set(0, 0, 3);
        x.set(4, 0, 5);
        due.be("there", x.told(0, 13), 1);
        due.be("cost 105 by 10", x.told(0, 14), 10);
        due.be("gain 1125 less 10000", x.told(0, 15), -8875);
        x.set(3, 0, 1023 - 4);
        int[] away = {7, 8, 9, 0, 0, 0};
        for (int what = 10; what < 16; what++) {
            due.be("not there: told(0, " + what + ")", x.told(0, what), away[what - 10]);
        }
        due.be("told(0, 16)", x.told(0, 16), ODD);
        due.be("told(0, -1)", x.told(0, -1), ODD);
        due.be("told(1, 5)", x.told(1, 5), ODD);
        due.be("told(-1, 15)", x.told(-1, 15), ODD);
        due.be("told(max, max)", x.told(Integer.MAX_VALUE, Integer.MAX_VALUE), ODD);
        OneCubeEach never = Due.by("eats 1; odds 0; spends 99;");
        never.customer(0, 0, 0);
        due.be("never buys: gain is the cost", never.told(0, 15), -2000);
    }

    public static void main(String[] args) {
        Due due = new Due();
        aNewObject(due);
        set(due);
        customer(due);
        told(due);
        due.end();
    }
}
