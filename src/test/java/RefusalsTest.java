import java.util.ArrayList;
import java.util.LinkedHashMap;
import java.util.List;
import java.util.Map;
import java.util.function.ToLongFunction;

/**
 * 'Refusals, the first that the call's words name; they change nothing', and what is found in thought
 * changes nothing either: after such a call all that can be asked is answered as if it had not been.
 */
public final class RefusalsTest {
    private static final int BAD = -2, STATE = -3, FULL = -4, ODD = -100000000;
    private static final long NO = -4611686018427387904L;
    private static final int MIN = Integer.MIN_VALUE, MAX = Integer.MAX_VALUE;

    private final Map<String, ToLongFunction<OneCubeEach>> calls = new LinkedHashMap<>();
    private final Map<String, Long> wants = new LinkedHashMap<>();

    private void refuse(String name, long want, ToLongFunction<OneCubeEach> call) {
        calls.put(name, call);
        wants.put(name, want);
    }

    private void think(String name, ToLongFunction<OneCubeEach> call) {
        calls.put(name, call);
    }

    /** Nothing is as at first; SHEET 3 is missing; CUSTOMER 0 eats as he hungers. */
    private static OneCubeEach made() {
        OneCubeEach x = Due.by("eats hunger;odds 1+number;spends 9;");
        int[] board = {12, 5, 0, 1000, 7};
        x.customer(0, 1, 3);
        x.customer(2, 3, 5);
        x.image();
        for (int what = 0; what < 5; what++) {
            x.set(what, 0, board[what]);
        }
        x.customer(3, 2, 9);
        x.sell(8);
        x.set(7, 1, 33);
        Due.row(x, 0, 0, 1, 2, 3, 4);
        Due.row(x, 1, 1, 5, 6, 7);
        Due.row(x, 2, 2, 8, 9);
        for (char c : "eats".toCharArray()) {
            x.feed(c);
        }
        return x;
    }

    /** As made, with no room for one more CUSTOMER or TEXT, a tape that is full, and no image. */
    private static OneCubeEach full() {
        OneCubeEach x = Due.by("eats hunger;odds 1;spends 9;");
        for (int i = 2; i < 6; i++) {
            Due.read(x, "eats " + i + ";odds 1;spends 9;");
        }
        for (int i = 0; i < 8; i++) {
            x.customer(0, i, i);
        }
        for (int i = 0; i < 160; i++) {
            x.feed(' ');
        }
        Due.row(x, 0, 0, 1, 2, 3, 4);
        return x;
    }

    /** All that can be asked; what changes the object is asked last. */
    private static List<Long> look(OneCubeEach x) {
        List<Long> seen = new ArrayList<>();
        for (int what = 0; what < 6; what++) {
            seen.add((long) x.count(what));
        }
        for (int what = 0; what < 5; what++) {
            seen.add((long) x.told(0, what));
        }
        for (int i = 0; i < x.count(0); i++) {
            for (int what = 5; what < 13; what++) {
                seen.add((long) x.told(i, what));
            }
        }
        for (int sheet = 0; sheet < 4; sheet++) {
            for (int sort = 0; sort < 3; sort++) {
                seen.add((long) x.customers(sheet, sort, 0, 0));
            }
        }
        int size = x.feed(' ');
        seen.add((long) size);
        seen.add((long) x.text());
        x.force(1);
        for (int sheet = 0; sheet < 3; sheet++) {
            x.sheet(3, sheet, 1);
            for (int i = 0; i < 5; i++) {
                seen.add((long) x.copy(sheet, i, 3, 0, 1));
                seen.add((long) x.tells(3, 0, 4));
            }
        }
        seen.add((long) x.sell(5));
        seen.add((long) x.back());
        for (int what = 0; what < 10; what++) {
            seen.add((long) x.told(1, what));
        }
        for (int what = 0; what < 6; what++) {
            seen.add((long) x.count(what));
        }
        return seen;
    }

    private void allUnchanged(Due due, String state, boolean isFull) {
        List<Long> want = look(isFull ? full() : made());
        for (String name : calls.keySet()) {
            OneCubeEach x = isFull ? full() : made();
            long answer = calls.get(name).applyAsLong(x);
            if (wants.containsKey(name)) {
                due.be(state + ": " + name, answer, wants.get(name));
            }
            due.hold(state + ": nothing is changed by " + name, look(x).equals(want));
        }
    }

    private void boardRefuses() {
        int[] least = {1, 1, 0, 0, 0, 0, 0, 0};
        int[] most = {40, 6, 1, 1023, 99, 9, 9, 99};
        for (int what = 0; what < 8; what++) {
            int w = what;
            refuse("set " + w + " too small", BAD, x -> x.set(w, 0, least[w] - 1));
            refuse("set " + w + " too large", BAD, x -> x.set(w, 0, most[w] + 1));
            if (w > 4) {
                refuse("set " + w + " of none", BAD, x -> x.set(w, 3, least[w]));
                refuse("set " + w + " of -1", BAD, x -> x.set(w, -1, least[w]));
            }
        }
        refuse("set 8", BAD, x -> x.set(8, 0, 1));
        refuse("set 9", BAD, x -> x.set(9, 0, 1));
        refuse("set -1", BAD, x -> x.set(-1, 0, 1));
        refuse("customer, kind", BAD, x -> x.customer(6, 0, 0));
        refuse("customer, number", BAD, x -> x.customer(0, 10, 0));
        refuse("customer, hour", BAD, x -> x.customer(0, 0, -1));
        refuse("feed below", BAD, x -> x.feed(-1));
        refuse("feed above", BAD, x -> x.feed(256));
        refuse("force below", BAD, x -> x.force(-1));
        refuse("force above", BAD, x -> x.force(2));
        refuse("board", ODD, x -> x.board(6));
        refuse("fair", NO, x -> x.fair(2));
        refuse("buysOne", NO, x -> x.buysOne(-1));
        refuse("hour", BAD, x -> x.hour(10, 0));
        refuse("hour, what", BAD, x -> x.hour(0, 2));
        refuse("cubes", ODD, x -> x.cubes(2));
        refuse("shelf", ODD, x -> x.shelf(2));
        refuse("apron", ODD, x -> x.apron(2));
        refuse("stand, n", ODD, x -> x.stand(11, 0));
        refuse("stand, what", ODD, x -> x.stand(1, 2));
        refuse("setting", ODD, x -> x.setting(2));
        refuse("sendAway", ODD, x -> x.sendAway(2));
        refuse("lost", BAD, x -> x.lost(3));
        refuse("count", BAD, x -> x.count(6));
        refuse("told", ODD, x -> x.told(3, 10));
        refuse("chance, m", NO, x -> x.chance(0, 0, 0, 0));
        refuse("chance, k", NO, x -> x.chance(0, 1, 10000, 0));
        refuse("chance, part", NO, x -> x.chance(0, 1, 0, 2));
    }

    private void hostRefuses() {
        refuse("tells, sheet", BAD, x -> x.tells(4, 0, 0));
        refuse("tells, customer ahead of -11", BAD, x -> x.tells(3, 3, 0));
        refuse("tells, what ahead of -11", BAD, x -> x.tells(3, 0, 8));
        refuse("tells, missing", -11, x -> x.tells(3, 0, 0));
        refuse("film, sheet", BAD, x -> x.film(4, 0, 1));
        refuse("film, customer", BAD, x -> x.film(0, 3, 1));
        refuse("film, n above", BAD, x -> x.film(0, 0, 41));
        refuse("film, n below", BAD, x -> x.film(0, 0, -1));
        refuse("sheet, none", BAD, x -> x.sheet(4, 0, 1));
        refuse("sheet, sort", BAD, x -> x.sheet(0, 3, 1));
        refuse("sheet, sort below", BAD, x -> x.sheet(0, -2, 1));
        refuse("sheet, above 40", BAD, x -> x.sheet(0, 0, 41));
        refuse("sheet, below 0", -14, x -> x.sheet(0, 1, -1));
        refuse("sheet, sort ahead of -14", BAD, x -> x.sheet(0, 3, -1));
        refuse("cell, sheet", BAD, x -> x.cell(-1, 0, 1));
        refuse("cell, missing ahead of outside", -11, x -> x.cell(3, -1, 1));
        refuse("cell, outside", -12, x -> x.cell(0, 4, 1));
        refuse("cell, outside below", -12, x -> x.cell(0, -1, 1));
        refuse("copy, sheet", BAD, x -> x.copy(4, 0, 0, 0, 1));
        refuse("copy, other ahead of missing", BAD, x -> x.copy(3, 0, 4, 0, 1));
        refuse("copy, missing ahead of unlike", -11, x -> x.copy(0, 0, 3, 0, 1));
        refuse("copy, missing one ahead of outside", -11, x -> x.copy(3, 0, 0, -1, 1));
        refuse("copy, unlike ahead of outside", -13, x -> x.copy(0, 9, 1, 0, -1));
        refuse("copy, outside", -12, x -> x.copy(0, 0, 0, 1, 4));
        refuse("copy, n below 0", -12, x -> x.copy(0, 1, 0, 0, -1));
        refuse("copy, far", -12, x -> x.copy(0, 1, 0, 0, MAX));
        refuse("customers, sheet", BAD, x -> x.customers(4, 0, 0, 1));
        refuse("customers, sort ahead of missing", BAD, x -> x.customers(3, 3, 0, 1));
        refuse("customers, n ahead of unlike", BAD, x -> x.customers(0, 1, 0, 9));
        refuse("customers, unlike ahead of outside", -13, x -> x.customers(0, 1, -1, 1));
        refuse("customers, missing ahead of outside", -11, x -> x.customers(3, 0, -1, 1));
        refuse("customers, outside at once", -12, x -> x.customers(0, 0, 2, 1));
        refuse("customers, outside below", -12, x -> x.customers(0, 0, -1, 2));
        refuse("taken, k ahead of none", BAD, x -> x.taken(3, 6));
        refuse("taken, none ahead of another kind", -11, x -> x.taken(3, 5));
        refuse("taken, another kind", -13, x -> x.taken(0, 1));
    }

    private void thoughts() {
        for (int what = 0; what < 16; what++) {
            int w = what;
            think("told " + w, x -> x.told(2, w));
        }
        for (int what = 0; what < 6; what++) {
            int w = what;
            think("board " + w, x -> x.board(w));
            think("count " + w, x -> x.count(w));
        }
        for (int what = 0; what < 2; what++) {
            int w = what;
            think("fair " + w, x -> x.fair(w));
            think("buysOne " + w, x -> x.buysOne(w));
            think("hour " + w, x -> x.hour(5, w));
            think("cubes " + w, x -> x.cubes(w));
            think("shelf " + w, x -> x.shelf(w));
            think("apron " + w, x -> x.apron(w));
            think("stand 0 " + w, x -> x.stand(0, w));
            think("stand 4 " + w, x -> x.stand(4, w));
            think("setting " + w, x -> x.setting(w));
            think("sendAway " + w, x -> x.sendAway(w));
            think("chance " + w, x -> x.chance(MAX, 20, 1, w));
        }
        for (int what = 0; what < 8; what++) {
            int w = what;
            think("tells " + w, x -> x.tells(0, 0, w));
        }
        think("lost of one", x -> x.lost(1));
        think("taken for one", x -> x.taken(0, 0));
        think("copy of none", x -> x.copy(0, 0, 0, 4, 0));
        think("copy in place", x -> x.copy(0, 0, 0, 0, 4));
        think("customers of none", x -> x.customers(0, 0, MIN, 0));
        think("a rule that is so", x -> x.force(1));
        think("a CUBE that is so", x -> x.set(0, MIN, 12));
    }

    private static RefusalsTest ofFull() {
        RefusalsTest test = new RefusalsTest();
        test.refuse("customer, full", FULL, x -> x.customer(0, 0, 0));
        test.refuse("customer, bad ahead of full", BAD, x -> x.customer(0, 0, 10));
        test.refuse("feed, full", FULL, x -> x.feed(' '));
        test.refuse("feed, bad ahead of full", BAD, x -> x.feed(-1));
        test.refuse("text, full", FULL, x -> x.text());
        test.refuse("force 6", BAD, x -> x.force(6));
        test.refuse("back, none kept", STATE, x -> x.back());
        test.refuse("customers, no room", 0, x -> x.customers(0, 0, 0, 1));
        test.refuse("customers, no room, then outside", -12, x -> x.customers(0, 0, 0, 2));
        return test;
    }

    public static void main(String[] args) {
        Due due = new Due();
        RefusalsTest test = new RefusalsTest();
        test.boardRefuses();
        test.hostRefuses();
        test.thoughts();
        test.allUnchanged(due, "as made", false);
        ofFull().allUnchanged(due, "full", true);
        due.end();
    }
}
