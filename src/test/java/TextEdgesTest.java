/** The edges of TEXTS and of FAULT (Terms; promises 5 to 7): each check bears the document's words. */
public final class TextEdgesTest {
    private static final String REST = ";odds 1;spends 1;";
    private static final String WHOLE = "eats 1;odds 1;spends 1;";

    private static final String[] TOKENS = {"7", "hour", "hunger", "number", "girl", "cube", "sorts", "eats", "odds",
        "spends", "or", "and", "not", "(", ")", ";", "+", "-", "*", "<", "="};
    private static final String ONE = "7 hour hunger number girl cube sorts - (";
    private static final String NOT = ONE + " not";
    private static final String JOINTS = "* + - < = and or";

    /** What stands ahead, and which tokens can stand behind it. */
    private static final String[][] CAN_STAND = {
        {"", "eats"},
        {"eats", NOT},
        {"eats 1", JOINTS + " ;"},
        {"eats hour", JOINTS + " ;"},
        {"eats -", ONE},
        {"eats - 1", JOINTS + " ;"},
        {"eats 1 *", ONE},
        {"eats 1 +", ONE},
        {"eats 1 -", ONE},
        {"eats 1 <", ONE},
        {"eats 1 =", ONE},
        {"eats 1 < 2", "* + - and or ;"},
        {"eats 1 = 2 * 3", "* + - and or ;"},
        {"eats 1 and", NOT},
        {"eats 1 or", NOT},
        {"eats 1 < 2 and 3", JOINTS + " ;"},
        {"eats 1 = 2 or 3", JOINTS + " ;"},
        {"eats not", NOT},
        {"eats not 1", JOINTS + " ;"},
        {"eats not 1 < 2", "* + - and or ;"},
        {"eats not not", NOT},
        {"eats (", NOT},
        {"eats (1", JOINTS + " )"},
        {"eats (1 < 2", "* + - and or )"},
        {"eats (1)", JOINTS + " ;"},
        {"eats (1 < 2)", JOINTS + " ;"},
        {"eats 1 < (2 < 3)", "* + - and or ;"},
        {"eats ((1)", JOINTS + " )"},
        {"eats 1;", "odds"},
        {"eats 1;odds", NOT},
        {"eats 1;odds 1", JOINTS + " ;"},
        {"eats 1;odds 1;", "spends"},
        {"eats 1;odds 1;spends", NOT},
        {"eats 1;odds 1;spends 1", JOINTS + " ;"},
        {WHOLE, ""},
    };

    private static final String[] NO_TOKENS = {"A", "Z", "\t", "\r", "\0", ",", ">", "/", ":", "`", "{", "\u0080", "\u00ff",
        "12345", "000000", "cheese", "eat", "oddss", "h", "notnot", "hourhunger"};

    private static int read(String text) {
        return Due.read(new OneCubeEach(), text);
    }

    private static void whatCanStand(Due due) {
        for (String[] row : CAN_STAND) {
            String can = " " + row[1] + " ";
            for (String token : TOKENS) {
                String text = row[0] + " " + token;
                int place = can.contains(" " + token + " ") ? text.length() : row[0].length() + 1;
                boolean whole = (row[0] + token).equals(WHOLE);
                due.be("the first TOKEN that can't stand there: [" + text + "]", read(text), whole ? 1 : -100 - place);
            }
            for (String no : NO_TOKENS) {
                String text = row[0] + " " + no;
                due.be("a byte that begins none, no WORD, a NUMBER too long: [" + text + "]", read(text),
                    -100 - row[0].length() - 1);
            }
        }
    }

    /** Each of the 256 bytes ahead of all, behind a NUMBER, and behind all. */
    private static void everyByte(Due due) {
        for (int b = 0; b < 256; b++) {
            boolean blank = b == 32 || b == 10;
            String c = String.valueOf((char) b);
            due.be("blanks (32, 10), ahead of all: " + b, read(c + WHOLE), blank ? 1 : -100);
            due.be("blanks (32, 10), behind all: " + b, read(WHOLE + c), blank ? 1 : -100 - WHOLE.length());
            boolean digit = b >= '0' && b <= '9';
            boolean then = "+-*<=;".contains(c);
            int want = blank || digit ? 1 : then ? -107 : -106;
            due.be("blanks (32, 10), between: " + b, read("eats 1" + c + REST), want);
        }
    }

    private static void tooEarly(Due due) {
        due.be("the text's size, if it ends too early: empty", read(""), -100);
        String[] pieces = {"eats", " ", "hour", " ", "\n", "<", "(", "not", " ", "-", "9999", ")", " ", ";", "odds", " ", "1", ";",
            "spends", " ", "girl", "  "};
        StringBuilder text = new StringBuilder();
        for (String piece : pieces) {
            text.append(piece);
            due.be("the text's size, if it ends too early: [" + text + "]", read(text.toString()), -100 - text.length());
        }
        due.be("and it does not, whole", read(text + ";"), 1);
        due.be("160 blanks", read(" ".repeat(160)), -260);
        due.be("160 bytes, none too many", read("eats 1" + "+1".repeat(77)), -260);
        due.be("the last of 160 bytes", read("eats 1" + "+1".repeat(76) + "+;"), -259);
        due.be("the 160th ends it", read("eats 1" + " ".repeat(160 - 6 - REST.length()) + REST), 1);
        OneCubeEach x = new OneCubeEach();
        due.be("160 bytes at most: the 161st is not read", Due.read(x, "eats 1" + " ".repeat(155 - REST.length()) + REST), -260);
    }

    private static void longTokens(Due due) {
        String[] whole = {"eats1;odds1;spends1;", "eats(1)*(2)<-3and not 4or girl;odds(1);spends(1);",
            "\n eats\n1\n;\nodds 1;spends\n\n 1; \n", "eats 9999;odds 0000;spends 0001;", "eats hour;odds hunger;spends number;",
            "eats girl;odds cube;spends sorts;", "eats not hour;odds not(1);spends not-1;"};
        for (String text : whole) {
            due.be("is a TEXT: [" + text + "]", read(text), 1);
        }
        String[] marked = {"eats 1 @andnot 1;", "eats @orand 1;", "@eat s 1;", "eats @ho ur;", "eats 12 @34;", "eats @12345;",
            "eats 1+@123456789012;", "eats @99999", "eats 1<@=2;", "eats 1@a;", "@eatsnot 1;", "@Eats 1;", "eats @HOUR;",
            "eats @hours;", "eats @hourz;", "eats @ahour;", "eats @four;", "@fats 1;", "eats hour@{;", "eats hour@`;", "eats hour@\u00ff;",
            "eats 12@/;", "eats 12@:;", "eats @hou;", "eats @our;", "eats @zhour;", "eats @notnot 1;", "eats 1;odds 1;@spend 1;",
            "eats 1;odds 1;spends 1;@;", "eats 1;odds 1;spends 1; \n @1", "eats 1;@spends 1;odds 1;", "@;", "eats 1@,5;",
            "@cheese A 12345", "@odds cheese;", "eats @A 12345;"};
        for (String m : marked) {
            fault(due, "TOKENS, each as long as can be", m);
        }
    }

    private static void fault(Due due, String words, String marked) {
        due.be(words + ": [" + marked + "]", read(marked.replace("@", "")), -100 - marked.indexOf('@'));
    }

    private static void fiveOpen(Due due) {
        String[] whole = {"(((((1)))))", "-----1", "not not not not not 1", "not-(not-1)", "not not not--1", "((not--1))",
            "(1)+(1)+(1)+(1)+(1)+(1)", "-1+-1+-1+-1+-1+-1", "-1*-1*-1*-1*-1*-1", "-1<-1 or-1=-1 and-1<-1",
            "not 1 and not 1 and not 1 and not 1 and not 1 and not 1", "not 1 or not 1 or not 1 or not 1 or not 1 or not 1",
            "((((-1+-1))))", "((((-1*(1)))))", "((((not 1 and (1)))))", "((((not 1 or-1))))", "not not not not-1<(1)",
            "not not not not(1)=-1", "not not not not not 1 and(((((1)))))", "not not not not not 1 or-----1", "-----1+(((((1)))))",
            "-(1)*(((((1)))))", "-((((1))))*(((((1)))))", "(not 1)+(((((1)))))", "(((((1)+(1)))))", "(((((1))+(1))+(1))+(1))",
            "not((((1))))<((((1))))", "not((((1))))and(((((1)))))", "1-1-1-1-1-1-1-1", "1-(1-(1-(1-(1-(1-1)-1)-1)-1)-1)-1",
            "((((not 1))))and((((not 1=1))))"};
        for (String e : whole) {
            due.be("5 are open at most: [" + e + "]", read("eats " + e + REST), 1);
            due.be("5 are open at most, in odds: [" + e + "]", read("eats 1;odds " + e + ";spends 1;"), 1);
        }
        String[] marked = {"(((((@(1))))))", "-----@-1", "not not not not not @not 1", "not not not not not @-1",
            "not not not not not @(1)", "-----@(1)", "(((((@-1)))))", "(((((@not 1)))))", "((((not 1<@(1)))))", "((((not 1+@-1))))",
            "((((not 1=1+@(1)))))", "((((-@(1)))))", "not not not not not 1<1+@-1", "not not not not not 1*@(1)",
            "(((((1)+(@(1))))))", "(((((1+@(1))))))", "-((((@(1)))))", "not((((1))))<((((@(1)))))", "1------@-1",
            "1+(((((1<@-1)))))", "(((((1 and @not 1)))))"};
        for (String m : marked) {
            fault(due, "while 5 of these are open", "eats " + m + REST);
        }
        fault(due, "a not can't stand behind a -", "eats not-@not 1;");
        fault(due, "5 in spends too", "eats 1;odds 1;spends (((((@(1))))));");
    }

    /** Told by a CUSTOMER of NUMBER 3, HOUR 8, HUNGER 45. */
    private static void told(Due due, String words, String e, int want) {
        OneCubeEach x = Due.by("eats " + e + REST);
        x.customer(0, 3, 8);
        x.set(7, 0, 45);
        due.be(words + ": " + e, x.told(0, 10), want);
    }

    private static void ints(Due due) {
        String root = "(9999*4+6344)";
        String max = root + "*" + root + "+9999*8+8055";
        String wraps = "an int (32 bits, wrapping)";
        told(due, wraps, "0<" + max, 1);
        told(due, wraps, max + "+1<0", 1);
        told(due, wraps, "(" + max + "+8)+(" + max + "-1)", 5);
        told(due, wraps, "0<-(" + max + ")-2", 1);
        told(due, wraps, "-(" + max + ")-1<0", 1);
        told(due, wraps, "-(" + max + "+1)<0", 1);
        told(due, wraps, "(" + max + ")*2=-2", 1);
        told(due, wraps, "(" + max + "+1)*2", 0);
        told(due, wraps, "(" + max + "+1)*2+7", 7);
        told(due, wraps, max + "+1<" + max, 1);
        String truth = "what is not 0 is true";
        String[] ones = {"-3 or 0", "0 or-3", "-3 and-2", "256 and 512", "7 or 7", "not 0", "not not 9", "3<4", "-4<-3", "5=5", "-5=0-5"};
        String[] noughts = {"0 or 0", "-3 and 0", "0 and 5", "not-1", "not 256", "not not 0", "4<4", "4<3", "5=6", "5=-5"};
        for (String e : ones) {
            told(due, truth, e, 1);
        }
        for (String e : noughts) {
            told(due, truth, e, 0);
        }
    }

    private static void grammar(Due due) {
        String words = "E: AND { or AND } ..";
        Object[] pairs = {"1 or 1 and 0", 1, "0 and 1 or 1", 1, "not 1 or 1", 1, "not 0 and 0", 0, "not 5<3", 1, "not 1=0", 1,
            "1+hunger<46", 0, "1+hunger<47", 1, "2*3+4", 10, "2+3*4", 14, "9-3-2", 4, "9-3+2", 8, "-2+5", 3, "-2*-2", 4,
            "2-(-3)", 5, "2--3", 5, "3<2+2", 1, "1+1=2", 1, "(3<4)+(3<4)", 2, "--7", 7, "not not 7", 1, "-(1 or 0)+3", 2,
            "3*(1 and 2)*4", 12, "1<2 and 2<3", 1, "1<2 and 3<2 or 1", 1, "not 0 or 0 and 0", 1};
        for (int i = 0; i < pairs.length; i += 2) {
            told(due, words, (String) pairs[i], (Integer) pairs[i + 1]);
        }
        Object[] names = {"hour", 8, "hunger", 45, "number", 3, "girl", 1, "cube", 10, "sorts", 4};
        for (int i = 0; i < names.length; i += 2) {
            told(due, "Of a CUSTOMER", (String) names[i], (Integer) names[i + 1]);
        }
        OneCubeEach x = Due.by("eats hour*10+number;odds hunger;spends girl*50+cube+sorts;");
        x.customer(0, 0, 0);
        x.customer(0, 9, 9);
        x.set(7, 0, 0);
        x.set(7, 1, 99);
        x.set(0, 0, 40);
        x.set(1, 0, 6);
        int[][] want = {{0, 0, 96}, {99, 99, 96}};
        for (int i = 0; i < 2; i++) {
            for (int what = 10; what < 13; what++) {
                due.be("Of a CUSTOMER: told(" + i + ", " + what + ")", x.told(i, what), want[i][what - 10]);
            }
        }
        x.set(2, 0, 0);
        due.be("girl: GIRL", x.told(0, 12), 46);
    }

    private static void bounds(Due due) {
        int[][] pairs = {{0, 0}, {1, 1}, {98, 98}, {99, 99}, {100, 99}, {9999, 99}};
        for (int[] p : pairs) {
            OneCubeEach x = Due.by("eats " + p[0] + ";odds " + p[0] + ";spends " + p[0] + ";");
            OneCubeEach y = Due.by("eats -" + p[0] + ";odds -" + p[0] + ";spends -" + p[0] + ";");
            x.customer(0, 0, 0);
            y.customer(0, 0, 0);
            for (int what = 10; what < 13; what++) {
                due.be("0 .. 99, else the bound: told(0, " + what + ") of " + p[0], x.told(0, what), p[1]);
                due.be("0 .. 99, else the bound: told(0, " + what + ") of -" + p[0], y.told(0, what), 0);
            }
        }
    }

    private static void firstRule(Due due) {
        OneCubeEach x = new OneCubeEach();
        x.customer(0, 0, 0);
        int[][] eats = {{0, 1}, {18, 1}, {19, 0}, {20, 0}, {99, 0}};
        for (int[] e : eats) {
            x.set(7, 0, e[0]);
            due.be("eats 1 + hunger < 20, HUNGER " + e[0], x.told(0, 10), e[1]);
        }
        due.be("odds 6 - girl", x.told(0, 11), 5);
        x.set(2, 0, 0);
        due.be("odds 6 - girl, none", x.told(0, 11), 6);
        due.be("spends 30", x.told(0, 12), 30);
        due.be("at first THE RULE", x.count(5), 0);
        due.be("TEXT 0 with them", x.count(3), 1);
        due.be("THE TAPE is empty at first", x.count(4), 0);
    }

    private static void feed(Due due) {
        OneCubeEach x = new OneCubeEach();
        for (int letter : new int[] {-1, 256, Integer.MIN_VALUE, Integer.MAX_VALUE}) {
            due.be("A byte (0 .. 255): feed(" + letter + ")", x.feed(letter), OneCubeEach.BAD);
        }
        due.be("a refusal changes nothing", x.count(4), 0);
        for (int i = 1; i <= 160; i++) {
            due.be("how many it has", x.feed(i % 2 * 255), i);
        }
        due.be("160 bytes at most", x.feed(32), OneCubeEach.FULL);
        due.be("BAD; FULL", x.feed(-1), OneCubeEach.BAD);
        due.be("a refusal changes nothing", x.count(4), 160);
        due.be("of 160 bytes", x.text(), -100);
        due.be("THE TAPE, which is empty then", x.count(4), 0);
        due.be("THE TAPE, which is empty then", x.feed(32), 1);
    }

    private static void sixTexts(Due due) {
        OneCubeEach x = new OneCubeEach();
        x.customer(0, 0, 0);
        for (int i = 1; i < 6; i++) {
            for (int later = i; later < 8; later++) {
                due.be("force(" + later + ") of what is no TEXT yet", x.force(later), OneCubeEach.BAD);
            }
            due.be("a refusal changes nothing", x.count(5), 0);
            due.be("-100 less the place of its FAULT", Due.read(x, "eats 1;odds;"), -111);
            due.be("a FAULT is no TEXT", x.count(3), i);
            due.be("empty then, by a FAULT too", x.count(4), 0);
            due.be("its number", Due.read(x, "eats " + i + REST), i);
            due.be("empty then", x.count(4), 0);
        }
        due.be("6 at most, TEXT 0 with them", x.count(3), 6);
        due.be("FULL: no TEXT more has room, THE TAPE being empty", x.text(), OneCubeEach.FULL);
        due.be("FULL: no TEXT more has room", Due.read(x, "eats 6" + REST), OneCubeEach.FULL);
        due.be("THE TAPE stays", x.count(4), 6 + REST.length());
        due.be("THE TAPE stays, and grows", x.feed(';'), 7 + REST.length());
        due.be("FULL, though it has a FAULT now", x.text(), OneCubeEach.FULL);
        due.be("THE TAPE stays", x.count(4), 7 + REST.length());
        due.be("texts stay", x.count(3), 6);
        int was = 0;
        for (int i : new int[] {5, 1, 4, 4, 0, 3, 2}) {
            due.be("which was", x.force(i), was);
            due.be("A TEXT is THE RULE", x.told(0, 10), i);
            was = i;
        }
        for (int i : new int[] {-1, 6, 7, Integer.MIN_VALUE, Integer.MAX_VALUE}) {
            due.be("BAD: force(" + i + ")", x.force(i), OneCubeEach.BAD);
        }
        due.be("a refusal changes nothing", x.count(5), 2);
    }

    /** A FAULT behind a good start leaves nothing of itself in the TEXT that comes next. */
    private static void afterFault(Due due) {
        OneCubeEach x = new OneCubeEach();
        x.customer(0, 0, 0);
        due.be("a FAULT at the end", Due.read(x, "eats 1+2+3+4;odds 5*6*7;spends 8-9-10;;"), -138);
        due.be("the next", Due.read(x, "eats 7;odds 8;spends 9;"), 1);
        x.force(1);
        for (int what = 10; what < 13; what++) {
            due.be("the next alone: told(0, " + what + ")", x.told(0, what), what - 3);
        }
        String[] faulty = {"eats 1;odds 2;spends -3;;", "eats 1;odds 2;spends not 3;;", "eats 1;odds 2;spends 3", "eats 1;odds 2;spends --3;;",
            "eats 1;odds 2;spends not not not 3;;", "eats 1*2;odds 3;;", "eats --1;odds 2;;", "eats not-1;odds not 2;spends 1+2;;"};
        for (String text : faulty) {
            OneCubeEach y = new OneCubeEach();
            y.customer(0, 0, 0);
            due.hold("has a FAULT: " + text, Due.read(y, text) <= -100);
            due.be("the next behind " + text, Due.read(y, "eats 7;odds 8;spends 9;"), 1);
            y.force(1);
            for (int what = 10; what < 13; what++) {
                due.be("the next alone behind " + text + ": told(0, " + what + ")", y.told(0, what), what - 3);
            }
        }
    }

    public static void main(String[] args) {
        Due due = new Due();
        whatCanStand(due);
        everyByte(due);
        tooEarly(due);
        longTokens(due);
        fiveOpen(due);
        ints(due);
        grammar(due);
        bounds(due);
        firstRule(due);
        feed(due);
        sixTexts(due);
        afterFault(due);
        due.end();
    }
}
