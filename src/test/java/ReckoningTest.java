/** Promises 8 to 11: board, fair, buysOne, hour. */
public final class ReckoningTest {
    private static final int ODD = -100000000;

    /** Of eight: 0 a customer at 0, 1 a child at 3, 2 a widow at 3, 3 a hungry one at 5, 4 a gourmet at 9. */
    private static OneCubeEach five() {
        OneCubeEach x = Due.by("eats 3; odds 4; spends 21;");
        x.customer(0, 1, 0);
        x.customer(1, 2, 3);
        x.customer(4, 3, 3);
        x.customer(3, 4, 5);
        x.customer(5, 5, 9);
        return x;
    }

    private static void all(Due due, String when, OneCubeEach x, int... want) {
        for (int what = 0; what < want.length; what++) {
            due.be(when + ": board(" + what + ")", x.board(what), want[what]);
        }
    }

    private static void board(Due due) {
        all(due, "none came", new OneCubeEach(), 0, 0, 0, 0, OneCubeEach.NONE, 0);
        OneCubeEach x = five();
        // eaten 3 6 1 8 1; cost 6 12 2 16 2; brings 5250 0 0 375 71000
        all(due, "five", x, 76625 - 38000, 19, 38, 6, 5, 31);
        x.set(6, 3, 0);
        all(due, "one comes earlier", x, 76625 - 38000, 19, 38, 6, 0, 31);
        x.set(3, 0, 1 << 3 | 1 << 9);
        all(due, "three are there", x, 71000 - 16000, 8, 16, 6, 3, 22);
        x.set(0, 0, 4);
        x.set(4, 0, 3);
        // 72 by 10, 12 by 10, 12 by 10, each cut
        all(due, "costs are cut one by one", x, 71000 - 9000, 8, 9, 6, 3, 22);
        x.set(3, 0, 0);
        all(due, "closed", x, 0, 0, 0, 0, OneCubeEach.NONE, 0);
        OneCubeEach like = Due.by("eats 2; odds 0; spends 1;");
        like.customer(0, 0, 7);
        like.customer(0, 0, 4);
        all(due, "of like hours the first", like, -8000, 4, 8, 3, 4, 3);
        OneCubeEach no = Due.by("eats 0; odds 0; spends 1;");
        no.customer(0, 0, 7);
        all(due, "nothing is eaten", no, 0, 0, 0, 0, OneCubeEach.NONE, 1);
        for (int what : new int[] {-1, 6, Integer.MIN_VALUE, Integer.MAX_VALUE}) {
            due.be("board(" + what + ")", x.board(what), ODD);
        }
    }

    private static void fractions(Due due, String when, OneCubeEach x, long... want) {
        due.be(when + ": fair(0)", x.fair(0), want[0]);
        due.be(when + ": fair(1)", x.fair(1), want[1]);
        due.be(when + ": buysOne(0)", x.buysOne(0), want[2]);
        due.be(when + ": buysOne(1)", x.buysOne(1), want[3]);
    }

    private static void fractions(Due due) {
        fractions(due, "none came", new OneCubeEach(), 0, 1, 0, 1);
        OneCubeEach x = five();
        x.set(1, 0, 3);
        // 21/4 + 3/8 + 71/4; 1 less 3/4 times 7/8 times 3/4
        fractions(due, "five", x, 187, 8, 65, 128);
        x.set(1, 0, 4);
        fractions(due, "one surely buys", x, 613, 8, 1, 1);
        x.set(3, 0, 1 << 3);
        fractions(due, "none there buys", x, 0, 1, 0, 1);
        OneCubeEach many = Due.by("eats 0; odds 99 - number; spends 98;");
        for (int i = 0; i < 8; i++) {
            many.customer(0, i, i);
        }
        Model model = new Model();
        String text = "eats 0; odds 99 - number; spends 98;";
        text.chars().forEach(model::feed);
        model.force(model.text());
        for (int i = 0; i < 8; i++) {
            model.customer(0, i, i);
        }
        fractions(due, "wide ones", many, model.fair(0), model.fair(1), model.buysOne(0), model.buysOne(1));
        OneCubeEach free = Due.by("eats 0; odds 7; spends 0;");
        free.customer(0, 0, 0);
        fractions(due, "who buys for nothing", free, 0, 1, 1, 7);
        for (int part : new int[] {-1, 2, Integer.MIN_VALUE}) {
            due.be("fair(" + part + ")", x.fair(part), OneCubeEach.NO);
            due.be("buysOne(" + part + ")", x.buysOne(part), OneCubeEach.NO);
        }
    }

    private static void hour(Due due) {
        OneCubeEach x = five();
        int[] eaten = {3, 0, 0, 7, 0, 8, 0, 0, 0, 1};
        int[] there = {1, 0, 0, 6, 0, 8, 0, 0, 0, 16};
        for (int h = 0; h < 10; h++) {
            due.be("hour(" + h + ", 0)", x.hour(h, 0), eaten[h]);
            due.be("hour(" + h + ", 1)", x.hour(h, 1), there[h]);
        }
        x.set(3, 0, 1023 - 8);
        due.be("a closed hour, eaten", x.hour(3, 0), 0);
        due.be("a closed hour, there", x.hour(3, 1), 0);
        due.be("another hour", x.hour(5, 1), 8);
        int[][] bad = {{-1, 0}, {10, 0}, {0, -1}, {0, 2}, {Integer.MAX_VALUE, 1}, {0, Integer.MIN_VALUE}};
        for (int[] b : bad) {
            due.be("hour bad", x.hour(b[0], b[1]), OneCubeEach.BAD);
        }
    }

    public static void main(String[] args) {
        Due due = new Due();
        board(due);
        fractions(due);
        hour(due);
        due.end();
    }
}
