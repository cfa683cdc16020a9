import java.util.Random;

/** Random runs of calls, ordinary ones and wild ones, on the class and on the model beside it. */
public final class ModelTest {
    private static final String[] WORDS = {"hour", "hunger", "number", "girl", "cube", "sorts", "eats", "odds",
        "spends", "or", "and", "not", "(", ")", ";", "+", "-", "*", "<", "=", "7", "20", "9999", "12345", "cheese",
        "a", "A", "\t", "\n", " ", "é"};
    private final Random random;
    private final Due due;
    private OneCubeEach x;
    private Model y;
    private int calls;
    private int run;

    private ModelTest(long seed, Due due) {
        random = new Random(seed);
        this.due = due;
    }

    private int any(int n) {
        return random.nextInt(n);
    }

    /** Mostly from .. to, sometimes just beside it, rarely far away. */
    private int near(int from, int to) {
        int dice = any(60);
        if (dice == 0) return from - 1;
        if (dice == 1) return to + 1;
        if (dice == 2) return random.nextInt();
        if (dice == 3) return any(2) == 0 ? Integer.MIN_VALUE : Integer.MAX_VALUE;
        return from + any(to - from + 1);
    }

    private String either(int depth) {
        StringBuilder s = new StringBuilder(both(depth));
        while (any(6) == 0) s.append(" or ").append(both(depth));
        return s.toString();
    }

    private String both(int depth) {
        StringBuilder s = new StringBuilder(denial(depth));
        while (any(6) == 0) s.append(" and ").append(denial(depth));
        return s.toString();
    }

    private String denial(int depth) {
        if (any(6) == 0) return "not " + denial(depth + 1);
        String s = sum(depth);
        return any(4) == 0 ? s + (any(2) == 0 ? "<" : " = ") + sum(depth) : s;
    }

    private String sum(int depth) {
        StringBuilder s = new StringBuilder(term(depth));
        while (any(4) == 0) s.append(any(2) == 0 ? "+" : " - ").append(term(depth));
        return s.toString();
    }

    private String term(int depth) {
        StringBuilder s = new StringBuilder(one(depth));
        while (any(4) == 0) s.append("*").append(one(depth));
        return s.toString();
    }

    private String one(int depth) {
        if (depth < 6 && any(5) == 0) return "-" + one(depth + 1);
        if (depth < 6 && any(4) == 0) return "(" + either(depth + 1) + ")";
        if (any(2) == 0) return WORDS[any(6)];
        return String.valueOf(any(3) == 0 ? any(10000) : any(30));
    }

    private String text() {
        String s = "eats " + either(0) + ";odds " + either(0) + " ;\nspends " + either(0) + ";";
        for (int turn = 0; any(3) == 0 && turn < 4; turn++) {
            int at = any(s.length() + 1);
            int cut = Math.min(s.length(), at + any(4));
            String in = any(3) == 0 ? "" : WORDS[any(WORDS.length)];
            s = s.substring(0, at) + in + s.substring(any(2) == 0 ? at : cut);
        }
        return s;
    }

    private void same(String call, long got, long want) {
        calls++;
        due.be("run " + run + ", call " + calls + ": " + call, got, want);
    }

    private void texts() {
        String s = text();
        if (s.length() > 160 && any(4) != 0) return;
        if (calls + s.length() + 3 > 512) return;
        for (int i = 0; i < s.length(); i++) {
            same("feed " + (int) s.charAt(i), x.feed(s.charAt(i)), y.feed(s.charAt(i)));
        }
        int number = y.texts.size();
        same("text of [" + s + "]", x.text(), y.text());
        if (any(3) != 0) same("force " + number, x.force(number), y.force(number));
    }

    private void host() {
        int a = near(0, 3), b = near(0, 3), c = near(0, 40), d = near(0, 20), e = near(0, 24);
        int sort = near(-1, 2);
        switch (any(9)) {
            case 0: same("sheet " + a + " " + sort + " " + c, x.sheet(a, sort, c), y.sheet(a, sort, c)); break;
            case 1: case 2: {
                int v = any(3) == 0 ? random.nextInt() : near(0, 9);
                same("cell " + a + " " + d + " " + v, x.cell(a, d, v), y.cell(a, d, v));
                break;
            }
            case 3: case 4:
                same("copy " + a + " " + d + " " + b + " " + e + " " + c, x.copy(a, d, b, e, c), y.copy(a, d, b, e, c));
                break;
            case 5: {
                int n = near(0, 8);
                same("customers " + a + " " + sort + " " + d + " " + n, x.customers(a, sort, d, n), y.customers(a, sort, d, n));
                break;
            }
            case 6: {
                int i = near(0, 8), k = near(0, 5);
                same("taken " + i + " " + k, x.taken(i, k), y.taken(i, k));
                break;
            }
            case 7: {
                int i = near(0, 7);
                same("film " + a + " " + i + " " + c, x.film(a, i, c), y.film(a, i, c));
                break;
            }
            default: {
                int i = near(0, 7), what = near(0, 7);
                same("tells " + a + " " + i + " " + what, x.tells(a, i, what), y.tells(a, i, what));
                break;
            }
        }
    }

    private void board() {
        int what = near(0, 7), of = near(0, 7);
        int[] most = {40, 6, 1, 1023, 99, 9, 9, 99};
        int v = near(0, what >= 0 && what < 8 ? most[what] : 3);
        switch (any(8)) {
            case 0: case 1: same("set " + what + " " + of + " " + v, x.set(what, of, v), y.set(what, of, v)); break;
            case 2: {
                int kind = near(0, 5), number = near(0, 9), hour = near(0, 9);
                same("customer " + kind + " " + number + " " + hour,
                    x.customer(kind, number, hour), y.customer(kind, number, hour));
                break;
            }
            case 3: case 4: {
                int w = near(0, 15);
                same("told " + of + " " + w, x.told(of, w), y.told(of, w));
                break;
            }
            case 5: {
                int seed = random.nextInt();
                same("sell " + seed, x.sell(seed), y.sell(seed));
                break;
            }
            case 6: {
                int w = near(0, 5);
                same("count " + w, x.count(w), y.count(w));
                break;
            }
            default:
                if (any(3) == 0) same("image", x.image(), y.image());
                else if (any(3) == 0) same("back", x.back(), y.back());
                else same("force " + of, x.force(of), y.force(of));
                break;
        }
    }

    private void found() {
        int what = near(0, 1), of = near(0, 7), n = near(0, 10);
        switch (any(12)) {
            case 0: { int w = near(0, 5); same("board " + w, x.board(w), y.board(w)); break; }
            case 1: same("fair " + what, x.fair(what), y.fair(what)); break;
            case 2: same("buysOne " + what, x.buysOne(what), y.buysOne(what)); break;
            case 3: same("hour " + n + " " + what, x.hour(n, what), y.hour(n, what)); break;
            case 4: same("cubes " + what, x.cubes(what), y.cubes(what)); break;
            case 5: same("shelf " + what, x.shelf(what), y.shelf(what)); break;
            case 6: same("apron " + what, x.apron(what), y.apron(what)); break;
            case 7: same("stand " + n + " " + what, x.stand(n, what), y.stand(n, what)); break;
            case 8: if (any(3) == 0) same("setting " + what, x.setting(what), y.setting(what)); break;
            case 9: same("sendAway " + what, x.sendAway(what), y.sendAway(what)); break;
            case 10: same("lost " + of, x.lost(of), y.lost(of)); break;
            default: {
                int seed = random.nextInt(), m = near(1, 20), k = any(3) == 0 ? near(0, 9999) : near(0, 150);
                same("chance " + seed + " " + m + " " + k + " " + what,
                    x.chance(seed, m, k, what), y.chance(seed, m, k, what));
                break;
            }
        }
    }

    private void run(int number) {
        run = number;
        calls = 0;
        x = new OneCubeEach();
        y = new Model();
        for (int i = any(9); i > 0; i--) {
            int kind = any(6), n = any(10), h = any(10);
            same("customer", x.customer(kind, n, h), y.customer(kind, n, h));
        }
        while (calls < 500) {
            int dice = any(100);
            if (dice < 3) texts();
            else if (dice < 38) board();
            else if (dice < 70) host();
            else found();
        }
    }

    public static void main(String[] args) {
        int runs = args.length > 0 ? Integer.parseInt(args[0]) : 150;
        long first = args.length > 1 ? Long.parseLong(args[1]) : 1;
        Due due = new Due();
        for (int i = 0; i < runs && due.wrong() == 0; i++) {
            new ModelTest(first + i, due).run(i);
        }
        due.end();
    }
}
