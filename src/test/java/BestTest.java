/** Promises 12 to 18: cubes, shelf, apron, stand, setting, sendAway, lost. */
public final class BestTest {
    private static final int ODD = -100000000;

    private static void cubes(Due due) {
        OneCubeEach none = new OneCubeEach();
        due.be("none: cubes(0)", none.cubes(0), 1);
        due.be("none: cubes(1)", none.cubes(1), 0);
        OneCubeEach x = Due.by("eats 1; odds 1 + (cube < 30) * 9; spends cube = 33 or 20;");
        x.customer(0, 0, 0);
        // spends 1 always; from 30 on 1000 less 6000 and more; below 100 less the cost, 0 till 4
        due.be("the least of like ones", x.cubes(0), 1);
        due.be("its gain", x.cubes(1), 100);
        OneCubeEach y = Due.by("eats 1; odds 1; spends (cube = 40) * 99;");
        y.customer(0, 0, 0);
        due.be("the last one", y.cubes(0), 40);
        due.be("its gain", y.cubes(1), 91000);
        due.be("all is as it was", y.told(0, 0), 10);
        for (int what : new int[] {-1, 2, Integer.MIN_VALUE}) {
            due.be("cubes(" + what + ")", y.cubes(what), ODD);
            due.be("shelf(" + what + ")", y.shelf(what), ODD);
            due.be("apron(" + what + ")", y.apron(what), ODD);
            due.be("stand(1, " + what + ")", y.stand(1, what), ODD);
            due.be("setting(" + what + ")", y.setting(what), ODD);
            due.be("sendAway(" + what + ")", y.sendAway(what), ODD);
        }
    }

    private static void shelfAndApron(Due due) {
        OneCubeEach x = Due.by("eats 9; odds 2; spends 50;");
        x.customer(2, 0, 0);
        due.be("a pensioner eats by sorts", x.shelf(0), 1);
        due.be("its gain", x.shelf(1), 25000 / 4 - 2000);
        x.customer(5, 0, 0);
        due.be("a gourmet buys from four sorts on", x.shelf(0), 4);
        due.be("its gain", x.shelf(1), 6250 - 8000 + 50000 - 2000);
        due.be("all is as it was", x.told(0, 1), 4);
        OneCubeEach y = Due.by("eats 9; odds 2 - girl; spends 50;");
        due.be("like ones: none ahead", y.apron(0), 0);
        y.customer(0, 0, 0);
        due.be("by the girl sooner", y.apron(0), 1);
        due.be("its gain", y.apron(1), 50000 - 18000);
        y.set(2, 0, 0);
        due.be("by the girl sooner, were she there", y.apron(0), 1);
        due.be("all is as it was", y.told(0, 2), 0);
        OneCubeEach z = Due.by("eats 0; odds 1; spends 50;");
        z.customer(4, 0, 0);
        due.be("a widow eats one with her", z.apron(0), 0);
        due.be("its gain", z.apron(1), 0);
    }

    private static void stand(Due due) {
        OneCubeEach x = Due.by("eats 1; odds 1; spends hour;");
        x.customer(0, 0, 1);
        x.customer(0, 0, 3);
        x.customer(0, 0, 8);
        // gains -1000, 1000, 6000
        x.set(3, 0, 0);
        int[][] want = {{0, 0}, {8, 6000}, {7, 6000}, {6, 6000}, {5, 6000}, {4, 6000}, {3, 7000}, {2, 7000},
            {2, 7000}, {0, 6000}, {0, 6000}};
        for (int n = 0; n <= 10; n++) {
            due.be("stand(" + n + ", 0)", x.stand(n, 0), want[n][0]);
            due.be("stand(" + n + ", 1)", x.stand(n, 1), want[n][1]);
        }
        due.be("all is as it was", x.told(0, 3), 0);
        due.be("stand(-1, 0)", x.stand(-1, 0), ODD);
        due.be("stand(11, 0)", x.stand(11, 0), ODD);
        due.be("stand(min, 1)", x.stand(Integer.MIN_VALUE, 1), ODD);
        OneCubeEach loss = Due.by("eats 1; odds 0; spends 0;");
        loss.customer(0, 0, 0);
        loss.customer(0, 0, 9);
        due.be("nine hours lose less than none", loss.stand(9, 1), -2000);
        due.be("of like ones the first", loss.stand(9, 0), 0);
        due.be("eight are without loss", loss.stand(8, 0), 1);
    }

    private static void setting(Due due) {
        due.be("none: setting(0)", new OneCubeEach().setting(0), 110);
        OneCubeEach x = Due.by("eats 1; odds 1; spends (cube=17 and sorts=5 and girl=0)*60;");
        x.customer(0, 0, 0);
        due.be("setting(0)", x.setting(0), 1750);
        due.be("setting(1)", x.setting(1), 57000);
        OneCubeEach y = Due.by("eats 0; odds 1; spends (cube=40 or sorts=6 or girl)*60;");
        y.customer(0, 0, 0);
        due.be("the least cube, then sorts", y.setting(0), 111);
        OneCubeEach z = Due.by("eats 0; odds 1; spends (cube=40 or sorts=6)*60;");
        z.customer(0, 0, 0);
        due.be("the least cube ahead of sorts", z.setting(0), 160);
        due.be("its gain", z.setting(1), 60000);
        for (int what = 0; what < 3; what++) {
            due.be("all is as it was", z.told(0, what), new int[] {10, 4, 1}[what]);
        }
        OneCubeEach last = Due.by("eats 0; odds 1; spends (cube=40 and sorts=6 and girl)*60;");
        last.customer(0, 0, 0);
        due.be("the last of all", last.setting(0), 4061);
    }

    private static void sendAway(Due due) {
        OneCubeEach x = Due.by("eats number; odds 1; spends 9;");
        due.be("none: sendAway(0)", x.sendAway(0), OneCubeEach.NONE);
        due.be("none: sendAway(1)", x.sendAway(1), 0);
        x.customer(0, 4, 0);
        x.customer(0, 0, 0);
        due.be("all bring more", x.sendAway(0), OneCubeEach.NONE);
        due.be("as so", x.sendAway(1), 10000);
        x.customer(1, 0, 0);
        due.be("one without gain", x.sendAway(0), OneCubeEach.NONE);
        x.customer(0, 5, 0);
        due.be("one who costs", x.sendAway(0), 3);
        due.be("without him", x.sendAway(1), 10000);
        x.customer(0, 9, 1);
        x.customer(0, 9, 2);
        due.be("of like ones the first", x.sendAway(0), 4);
        due.be("without her", x.sendAway(1), 0);
        x.set(3, 0, 1);
        due.be("who is not there need not go", x.sendAway(0), 3);
        due.be("without him", x.sendAway(1), 10000);
        due.be("all are still here", x.count(0), 6);
    }

    private static void lost(Due due) {
        OneCubeEach x = Due.by("eats 5; odds 2; spends 21;");
        x.customer(0, 0, 0);
        x.customer(1, 0, 0);
        x.customer(5, 0, 0);
        // 10500 less 1000 times the cube
        due.be("lost(0)", x.lost(0), 11);
        due.be("lost(1)", x.lost(1), 1);
        due.be("lost(2)", x.lost(2), OneCubeEach.NONE);
        due.be("all is as it was", x.told(0, 0), 10);
        x.set(3, 0, 0);
        due.be("not there", x.lost(1), OneCubeEach.NONE);
        for (int i : new int[] {-1, 3, Integer.MIN_VALUE, Integer.MAX_VALUE}) {
            due.be("lost(" + i + ")", x.lost(i), OneCubeEach.BAD);
        }
        OneCubeEach y = Due.by("eats cube = 5 or 39 < cube; odds 0; spends 0;");
        y.customer(0, 0, 0);
        due.be("from which on", y.lost(0), 40);
        OneCubeEach z = Due.by("eats cube < 40; odds 0; spends 0;");
        z.customer(0, 0, 0);
        due.be("not the last", z.lost(0), OneCubeEach.NONE);
    }

    public static void main(String[] args) {
        Due due = new Due();
        cubes(due);
        shelfAndApron(due);
        stand(due);
        setting(due);
        sendAway(due);
        lost(due);
        due.end();
    }
}
