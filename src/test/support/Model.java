import java.math.BigInteger;
import java.util.ArrayDeque;
import java.util.ArrayList;
import java.util.Arrays;
import java.util.Deque;
import java.util.HashMap;
import java.util.List;
import java.util.Map;
import java.util.function.IntConsumer;
import java.util.function.Supplier;

/**
 * The document once more, written another way than the class: texts are read by an automaton with
 * a stack, fractions are of big numbers, and what would be is tried on the state itself and undone.
 */
public final class Model {
    static final int ODD = -100000000;
    static final long NO = -4611686018427387904L;
    static final List<String> NAMES = List.of("hour", "hunger", "number", "girl", "cube", "sorts");
    static final List<String> KEYS = List.of("eats", "odds", "spends", "or", "and", "not");
    static final int[] PARENT = {-1, 0, 0, 1, 2, 0};

    static final class Fault extends RuntimeException {
        private static final long serialVersionUID = 1L;
        final int place;
        Fault(int place) {
            super("fault", null, false, false);
            this.place = place;
        }
    }

    static final class Person {
        int kind, number, hour, hunger = 20, bought;
        Person twin() {
            Person p = new Person();
            p.kind = kind;
            p.number = number;
            p.hour = hour;
            p.hunger = hunger;
            p.bought = bought;
            return p;
        }
    }

    int[] board = {10, 4, 1, 1023, 2};
    int rule = 0;
    List<Person> people = new ArrayList<>();
    int[] imageBoard = null;
    int imageRule;
    List<Person> imagePeople;
    List<List<List<String>>> texts = new ArrayList<>();
    StringBuilder tape = new StringBuilder();
    Object[] sheets = new Object[4];

    public Model() {
        texts.add(parse("eats 1 + hunger < 20 ; odds 6 - girl ; spends 30 ;"));
    }

    // ---- texts, by an automaton

    static final class Token {
        final String word;
        final int place;
        Token(String word, int place) {
            this.word = word;
            this.place = place;
        }
    }

    static List<Token> lex(String s) {
        List<Token> all = new ArrayList<>();
        int i = 0;
        while (i < s.length()) {
            char c = s.charAt(i);
            int j = i + 1;
            if (c == ' ' || c == '\n') {
                i++;
                continue;
            }
            if (c >= 'a' && c <= 'z') {
                while (j < s.length() && s.charAt(j) >= 'a' && s.charAt(j) <= 'z') j++;
            } else if (c >= '0' && c <= '9') {
                while (j < s.length() && s.charAt(j) >= '0' && s.charAt(j) <= '9') j++;
            }
            String w = s.substring(i, j);
            boolean good = c >= 'a' && c <= 'z' ? NAMES.contains(w) || KEYS.contains(w)
                : c >= '0' && c <= '9' ? w.length() <= 4 : "();+-*<=".indexOf(c) >= 0;
            all.add(new Token(good ? w : "?", i));
            i = j;
        }
        all.add(new Token("$", s.length()));
        return all;
    }

    static int rank(String op) {
        switch (op) {
            case "or": return 1;
            case "and": return 2;
            case "not": return 3;
            case "<": case "=": return 4;
            case "+": case "-": return 5;
            case "*": return 6;
            case "neg": return 7;
            default: return 0;
        }
    }

    static List<List<String>> parse(String s) {
        List<Token> tokens = lex(s);
        List<List<String>> parts = new ArrayList<>();
        int at = 0;
        for (String key : List.of("eats", "odds", "spends")) {
            if (!tokens.get(at).word.equals(key)) throw new Fault(tokens.get(at).place);
            at++;
            List<String> out = new ArrayList<>();
            at = one(tokens, at, out);
            parts.add(out);
        }
        if (!tokens.get(at).word.equals("$")) throw new Fault(tokens.get(at).place);
        return parts;
    }

    /** Reads an E and its ; by states: an operand is due (not may stand or not), or a joint is. */
    static int one(List<Token> tokens, int from, List<String> out) {
        Deque<String> open = new ArrayDeque<>();
        Deque<Boolean> compared = new ArrayDeque<>();
        Deque<String> ops = new ArrayDeque<>();
        compared.push(false);
        int state = 0;
        for (int at = from; ; at++) {
            String w = tokens.get(at).word;
            Fault fault = new Fault(tokens.get(at).place);
            if (state < 2) {
                if (NAMES.contains(w) || Character.isDigit(w.charAt(0))) {
                    out.add(w);
                    while ("-".equals(open.peek())) open.pop();
                    state = 2;
                } else if (w.equals("-") || w.equals("(") || w.equals("not") && state == 0) {
                    if (open.size() >= 5) throw fault;
                    open.push(w);
                    ops.push(w.equals("-") ? "neg" : w);
                    state = w.equals("-") ? 1 : 0;
                    if (w.equals("(")) compared.push(false);
                } else {
                    throw fault;
                }
                continue;
            }
            switch (w) {
                case "*": case "+": case "-":
                    state = 1;
                    break;
                case "<": case "=":
                    if (compared.pop()) throw fault;
                    compared.push(true);
                    state = 1;
                    break;
                case "and": case "or":
                    while ("not".equals(open.peek())) open.pop();
                    compared.pop();
                    compared.push(false);
                    state = 0;
                    break;
                case ")": case ";":
                    while ("not".equals(open.peek())) open.pop();
                    if (w.equals(";") != open.isEmpty()) throw fault;
                    while (!ops.isEmpty() && !ops.peek().equals("(")) out.add(ops.pop());
                    if (w.equals(";")) return at + 1;
                    ops.pop();
                    open.pop();
                    compared.pop();
                    while ("-".equals(open.peek())) open.pop();
                    continue;
                default:
                    throw fault;
            }
            while (!ops.isEmpty() && rank(ops.peek()) >= rank(w)) out.add(ops.pop());
            ops.push(w);
        }
    }

    int value(int part, Person p) {
        Map<String, Integer> env = new HashMap<>();
        env.put("hour", p.hour);
        env.put("hunger", p.hunger);
        env.put("number", p.number);
        env.put("girl", board[2]);
        env.put("cube", board[0]);
        env.put("sorts", board[1]);
        Deque<Integer> stack = new ArrayDeque<>();
        for (String w : texts.get(rule).get(part)) {
            if (env.containsKey(w)) {
                stack.push(env.get(w));
            } else if (Character.isDigit(w.charAt(0))) {
                stack.push(Integer.parseInt(w));
            } else if (w.equals("neg")) {
                stack.push(BigInteger.valueOf(stack.pop()).negate().intValue());
            } else if (w.equals("not")) {
                stack.push(stack.pop() == 0 ? 1 : 0);
            } else {
                int b = stack.pop();
                int a = stack.pop();
                stack.push(join(w, a, b));
            }
        }
        if (stack.size() != 1) throw new IllegalStateException();
        return clamp(stack.pop(), 99);
    }

    static int join(String w, int a, int b) {
        BigInteger x = BigInteger.valueOf(a);
        BigInteger y = BigInteger.valueOf(b);
        switch (w) {
            case "or": return (a != 0) | (b != 0) ? 1 : 0;
            case "and": return (a != 0) & (b != 0) ? 1 : 0;
            case "<": return x.compareTo(y) < 0 ? 1 : 0;
            case "=": return x.equals(y) ? 1 : 0;
            case "+": return x.add(y).intValue();
            case "-": return x.subtract(y).intValue();
            default: return x.multiply(y).intValue();
        }
    }

    static int clamp(int v, int most) {
        return v < 0 ? 0 : v > most ? most : v;
    }

    // ---- kinds, each by the words of its own

    int rawEats(int kind, Person p) {
        switch (kind) {
            case 0: return value(0, p);
            case 1: return 2 * rawEats(0, p);
            case 2: return Math.min(rawEats(0, p), board[1]);
            case 3: return rawEats(1, p) + p.hunger / 10;
            case 4: return board[2] == 1 ? 1 : rawEats(2, p);
            default: return Math.min(rawEats(0, p), 1);
        }
    }

    int rawTries(int kind, Person p) {
        switch (kind) {
            case 0: return value(1, p);
            case 2: return 2 * rawTries(0, p);
            case 3: return rawTries(0, p) + p.number;
            case 5: return board[1] > 3 ? 1 : rawTries(0, p);
            default: return 0;
        }
    }

    int rawSpends(int kind, Person p) {
        switch (kind) {
            case 0: return value(2, p);
            case 1: return 0;
            case 2: return rawSpends(0, p) / 2;
            case 3: return 3;
            case 4: return rawSpends(2, p);
            default: return rawSpends(0, p) + p.number * 10;
        }
    }

    int eats(Person p) {
        return clamp(rawEats(p.kind, p), 99);
    }

    int tries(Person p) {
        return clamp(rawTries(p.kind, p), 99);
    }

    int spends(Person p) {
        return clamp(rawSpends(p.kind, p), 999);
    }

    boolean there(Person p) {
        return (board[3] & (1 << p.hour)) != 0;
    }

    int cost(Person p) {
        return there(p) ? eats(p) * board[0] * board[4] / 10 : 0;
    }

    int gain(Person p) {
        if (!there(p)) return 0;
        int t = tries(p);
        return (t == 0 ? 0 : spends(p) * 1000 / t) - 1000 * cost(p);
    }

    int allGain() {
        return people.stream().mapToInt(this::gain).sum();
    }

    Person person(int i) {
        return i >= 0 && i < people.size() ? people.get(i) : null;
    }

    // ---- the face

    public int set(int what, int of, int v) {
        int[][] range = {{1, 40}, {1, 6}, {0, 1}, {0, 1023}, {0, 99}, {0, 9}, {0, 9}, {0, 99}};
        if (what < 0 || what > 7 || v < range[what][0] || v > range[what][1]) return -2;
        int was;
        if (what < 5) {
            was = board[what];
            board[what] = v;
            return was;
        }
        Person p = person(of);
        if (p == null) return -2;
        was = told(of, what);
        if (what == 5) p.number = v;
        if (what == 6) p.hour = v;
        if (what == 7) p.hunger = v;
        return was;
    }

    public int customer(int kind, int number, int hour) {
        if (kind < 0 || kind > 5 || number < 0 || number > 9 || hour < 0 || hour > 9) return -2;
        if (people.size() == 8) return -4;
        Person p = new Person();
        p.kind = kind;
        p.number = number;
        p.hour = hour;
        people.add(p);
        return people.size() - 1;
    }

    public int told(int of, int what) {
        if (what >= 0 && what <= 4) return board[what];
        Person p = person(of);
        if (p == null || what < 0 || what > 15) return ODD;
        int[] early = {p.number, p.hour, p.hunger, p.kind, p.bought};
        if (what < 10) return early[what - 5];
        int[] late = {eats(p), tries(p), spends(p), there(p) ? 1 : 0, cost(p), gain(p)};
        return late[what - 10];
    }

    public int feed(int letter) {
        if (letter < 0 || letter > 255) return -2;
        if (tape.length() == 160) return -4;
        tape.append((char) letter);
        return tape.length();
    }

    public int text() {
        if (texts.size() == 6) return -4;
        String s = tape.toString();
        tape.setLength(0);
        try {
            texts.add(parse(s));
        } catch (Fault f) {
            return -100 - f.place;
        }
        return texts.size() - 1;
    }

    public int force(int text) {
        if (text < 0 || text >= texts.size()) return -2;
        int was = rule;
        rule = text;
        return was;
    }

    public int board(int what) {
        switch (what) {
            case 0: return allGain();
            case 1: return people.stream().filter(this::there).mapToInt(this::eats).sum();
            case 2: return people.stream().mapToInt(this::cost).sum();
            case 3: case 5: {
                int bits = 0;
                for (int i = 0; i < people.size(); i++) {
                    Person p = people.get(i);
                    if (there(p) && (what == 5 || eats(p) > 0 && tries(p) == 0)) bits += 1 << i;
                }
                return bits;
            }
            case 4: {
                int most = 0;
                int at = -1;
                for (int h = 9; h >= 0; h--) {
                    int eaten = hour(h, 0);
                    if (eaten > 0 && eaten >= most) {
                        most = eaten;
                        at = h;
                    }
                }
                return at;
            }
            default: return ODD;
        }
    }

    static long part(BigInteger above, BigInteger below, int part) {
        BigInteger g = above.gcd(below);
        return (part == 0 ? above : below).divide(g).longValueExact();
    }

    public long fair(int part) {
        if (part != 0 && part != 1) return NO;
        BigInteger above = BigInteger.ZERO;
        BigInteger below = BigInteger.ONE;
        for (Person p : people) {
            if (there(p) && tries(p) > 0) {
                BigInteger t = BigInteger.valueOf(tries(p));
                above = above.multiply(t).add(BigInteger.valueOf(spends(p)).multiply(below));
                below = below.multiply(t);
            }
        }
        return part(above, below, part);
    }

    public long buysOne(int part) {
        if (part != 0 && part != 1) return NO;
        BigInteger none = BigInteger.ONE;
        BigInteger below = BigInteger.ONE;
        for (Person p : people) {
            if (there(p) && tries(p) > 0) {
                none = none.multiply(BigInteger.valueOf(tries(p) - 1));
                below = below.multiply(BigInteger.valueOf(tries(p)));
            }
        }
        return part(below.subtract(none), below, part);
    }

    public int hour(int hour, int what) {
        if (hour < 0 || hour > 9 || what < 0 || what > 1) return -2;
        int eaten = 0;
        int bits = 0;
        for (int i = 0; i < people.size(); i++) {
            Person p = people.get(i);
            if (p.hour == hour && there(p)) {
                eaten += eats(p);
                bits |= 1 << i;
            }
        }
        return what == 0 ? eaten : bits;
    }

    /** Tries candidates on the state itself, from the last to the first, and undoes it. */
    int best(int[] candidates, IntConsumer lay, int what) {
        int[] was = board.clone();
        int found = -1;
        int most = Integer.MIN_VALUE;
        for (int i = candidates.length - 1; i >= 0; i--) {
            lay.accept(candidates[i]);
            int g = allGain();
            if (g >= most) {
                most = g;
                found = candidates[i];
            }
        }
        board = was;
        return what == 0 ? found : most;
    }

    static int[] range(int from, int to) {
        int[] r = new int[to - from + 1];
        for (int i = 0; i < r.length; i++) r[i] = from + i;
        return r;
    }

    static boolean bit(int what) {
        return what == 0 || what == 1;
    }

    public int cubes(int what) {
        return bit(what) ? best(range(1, 40), v -> board[0] = v, what) : ODD;
    }

    public int shelf(int what) {
        return bit(what) ? best(range(1, 6), v -> board[1] = v, what) : ODD;
    }

    public int apron(int what) {
        return bit(what) ? best(range(0, 1), v -> board[2] = v, what) : ODD;
    }

    public int stand(int n, int what) {
        if (n < 0 || n > 10 || !bit(what)) return ODD;
        return best(range(0, 10 - n), v -> {
            board[3] = 0;
            for (int h = v; h < v + n; h++) board[3] |= 1 << h;
        }, what);
    }

    public int setting(int what) {
        if (!bit(what)) return ODD;
        int[] all = new int[480];
        for (int i = 0; i < 480; i++) all[i] = (i / 12 + 1) * 100 + (i / 2 % 6 + 1) * 10 + i % 2;
        return best(all, v -> {
            board[0] = v / 100;
            board[1] = v / 10 % 10;
            board[2] = v % 10;
        }, what);
    }

    public int sendAway(int what) {
        if (!bit(what)) return ODD;
        int most = allGain();
        int found = -1;
        for (int i = 0; i < people.size(); i++) {
            Person p = people.remove(i);
            int g = allGain();
            people.add(i, p);
            if (g > most) {
                most = g;
                found = i;
            }
        }
        return what == 0 ? found : most;
    }

    public int lost(int customer) {
        Person p = person(customer);
        if (p == null) return -2;
        int was = board[0];
        int last = 0;
        for (int c = 1; c <= 40; c++) {
            board[0] = c;
            if (gain(p) >= 0) last = c;
        }
        board[0] = was;
        return last == 40 ? -1 : last + 1;
    }

    static int[] cells(Object row) {
        int n = java.lang.reflect.Array.getLength(row);
        int[] r = new int[n];
        for (int i = 0; i < n; i++) r[i] = java.lang.reflect.Array.getInt(row, i);
        return r;
    }

    int[] filmed(Person p, int n) {
        int was = board[0];
        int[] r = new int[n];
        for (int i = 0; i < n; i++) {
            board[0] = i + 1;
            r[i] = eats(p);
        }
        board[0] = was;
        return r;
    }

    public int tells(int sheet, int customer, int what) {
        Person p = person(customer);
        if (sheet < 0 || sheet > 3 || p == null || what < 0 || what > 7) return -2;
        if (sheets[sheet] == null) return -11;
        int[] row = cells(sheets[sheet]);
        if (what == 0) return Arrays.mismatch(row, filmed(p, row.length));
        Person q = p.twin();
        int wasRule = rule;
        int wasSorts = board[1];
        int top = what == 7 ? texts.size() : 100;
        int[] tops = {0, 6, 10, 100, 100, 10, 7, top};
        List<Integer> fits = new ArrayList<>();
        for (int v = what == 6 ? 1 : 0; v < tops[what]; v++) {
            if (what == 1) q.kind = v;
            if (what == 2) q.number = v;
            if (what == 3 || what == 4) q.hunger = v;
            if (what == 5) q.hour = v;
            if (what == 6) board[1] = v;
            if (what == 7) rule = v;
            if (Arrays.equals(row, filmed(q, row.length))) fits.add(v);
        }
        rule = wasRule;
        board[1] = wasSorts;
        if (what == 3) return fits.size();
        if (what == 4) return fits.isEmpty() ? -1 : fits.get(0);
        return fits.stream().mapToInt(v -> 1 << v).sum();
    }

    public int film(int sheet, int customer, int n) {
        Person p = person(customer);
        if (sheet < 0 || sheet > 3 || p == null || n < 0 || n > 40) return -2;
        int[] r = filmed(p, n);
        byte[] b = new byte[n];
        for (int i = 0; i < n; i++) b[i] = (byte) r[i];
        sheets[sheet] = b;
        return n;
    }

    int drawn(int seed, boolean truly) {
        int z = seed;
        int all = 0;
        for (Person p : people) {
            if (!there(p)) continue;
            z = BigInteger.valueOf(z).multiply(BigInteger.valueOf(1103515245)).add(BigInteger.valueOf(12345)).intValue();
            int t = tries(p);
            if (t != 0 && Integer.remainderUnsigned(z >>> 9, t) == 0) {
                all += spends(p);
                if (truly && p.bought < 999) p.bought++;
            }
        }
        return all;
    }

    public int sell(int seed) {
        return drawn(seed, true);
    }

    public long chance(int seed, int m, int k, int part) {
        if (m < 1 || m > 20 || k < 0 || k > 9999 || part < 0 || part > 1) return NO;
        int hits = 0;
        for (int i = 0; i < m; i++) if (drawn(seed + i, false) >= k) hits++;
        return part(BigInteger.valueOf(hits), BigInteger.valueOf(m), part);
    }

    static List<Person> twins(List<Person> all) {
        List<Person> r = new ArrayList<>();
        for (Person p : all) r.add(p.twin());
        return r;
    }

    public int image() {
        imageBoard = board.clone();
        imageRule = rule;
        imagePeople = twins(people);
        return people.size();
    }

    public int back() {
        if (imageBoard == null) return -3;
        board = imageBoard.clone();
        rule = imageRule;
        people = twins(imagePeople);
        return people.size();
    }

    public int count(int what) {
        int[] all = {people.size(), Integer.bitCount(board[3]), people.stream().mapToInt(p -> p.bought).sum(),
            texts.size(), tape.length(), rule};
        return what < 0 || what > 5 ? -2 : all[what];
    }

    // ---- the host: what the machine throws, told by number

    static int host(Supplier<Integer> act) {
        try {
            return act.get();
        } catch (NullPointerException e) {
            return -11;
        } catch (IndexOutOfBoundsException e) {
            return -12;
        } catch (ClassCastException | ArrayStoreException e) {
            return -13;
        } catch (NegativeArraySizeException e) {
            return -14;
        }
    }

    public int sheet(int sheet, int sort, int n) {
        if (sheet < 0 || sheet > 3 || sort < -1 || sort > 2) return -2;
        if (sort == -1) {
            sheets[sheet] = null;
            return 1;
        }
        if (n > 40) return -2;
        return host(() -> {
            sheets[sheet] = sort == 0 ? new byte[n] : sort == 1 ? new short[n] : (Object) new int[n];
            return 1;
        });
    }

    public int cell(int sheet, int i, int v) {
        if (sheet < 0 || sheet > 3) return -2;
        return host(() -> {
            Object row = sheets[sheet];
            if (row instanceof byte[]) ((byte[]) row)[i] = (byte) v;
            else if (row instanceof short[]) ((short[]) row)[i] = (short) v;
            else ((int[]) row)[i] = v;
            return 1;
        });
    }

    public int copy(int sheet, int i, int other, int j, int n) {
        if (sheet < 0 || sheet > 3 || other < 0 || other > 3) return -2;
        return host(() -> {
            System.arraycopy(sheets[sheet], i, sheets[other], j, n);
            return n;
        });
    }

    static int get(Object row, int sort, int i) {
        return sort == 0 ? ((byte[]) row)[i] : sort == 1 ? ((short[]) row)[i] : ((int[]) row)[i];
    }

    public int customers(int sheet, int sort, int from, int n) {
        if (sheet < 0 || sheet > 3 || sort < 0 || sort > 2 || n < 0 || n > 8) return -2;
        return host(() -> {
            Object row = sheets[sheet];
            Class<?>[] sorts = {byte[].class, short[].class, int[].class};
            sorts[sort].cast(row);
            if (row == null) throw new NullPointerException();
            int came = 0;
            for (int t = 0; t < n; t++) {
                int at = from + 3 * t;
                if (customer(get(row, sort, at), get(row, sort, at + 1), get(row, sort, at + 2)) >= 0) came++;
            }
            return came;
        });
    }

    public int taken(int customer, int k) {
        if (k < 0 || k > 5) return -2;
        Person p = person(customer);
        if (p == null) return -11;
        for (int kind = p.kind; kind >= 0; kind = PARENT[kind]) {
            if (kind == k) return p.number;
        }
        return -13;
    }
}
