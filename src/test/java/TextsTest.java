/** Promises 5 to 7: feed, text, force. */
public final class TextsTest {
    private static void feed(Due due) {
        OneCubeEach x = new OneCubeEach();
        due.be("feed(-1)", x.feed(-1), OneCubeEach.BAD);
        due.be("feed(256)", x.feed(256), OneCubeEach.BAD);
        due.be("feed(0)", x.feed(0), 1);
        due.be("feed(255)", x.feed(255), 2);
        for (int i = 3; i <= 160; i++) {
            due.be("feed to " + i, x.feed(32), i);
        }
        due.be("feed full", x.feed(32), OneCubeEach.FULL);
        due.be("feed bad ahead of full", x.feed(256), OneCubeEach.BAD);
        due.be("bytes", x.count(4), 160);
        due.be("a byte that begins no token", x.text(), -100);
        due.be("the tape is empty", x.count(4), 0);
    }

    private static void fault(Due due, String text, int place) {
        OneCubeEach x = new OneCubeEach();
        due.be("text of [" + text + "]", Due.read(x, text), -100 - place);
        due.be("tape behind [" + text + "]", x.count(4), 0);
        due.be("texts behind [" + text + "]", x.count(3), 1);
    }

    private static void faultAt(Due due, String markedText) {
        int place = markedText.indexOf('@');
        fault(due, markedText.replace("@", ""), place);
    }

    private static void faults(Due due) {
        String[] marked = {
            "@", "   @", "@odds 1;", "eats@", "eats @;", "eats 1@", "eats 1;@", "eats 1; @eats 1;",
            "eats 1; odds 2;  \n @", "eats 1; odds 2; spends 3@", "eats 1; odds 2; spends 3  @",
            "eats 1; odds 2; spends 3; @;", "eats 1; odds 2; spends 3; @eats 1;", "eats 1; odds 2; spends 3; @A",
            "eats @12345; odds 2; spends 3;", "eats 1 @2; odds 2; spends 3;", "eats @cheese;", "@eatss 1;", "eats @hourz;", "eats @four;", "@fats 1;", "eats @zz;", "eats 1@`;", "eats 1@{;",
            "eats @Hour;", "eats 1@\t;", "eats 1 @, 2;", "eats 1 @> 2;", "eats 1 < 2 @< 3;", "eats 1 = 2 @= 3;",
            "eats 1 < 2 @= 3;", "eats 1 + @not 2;", "eats 1 < @not 2;", "eats 1 * @+ 2;", "eats @+ 1;", "eats @* 1;",
            "eats 1 or @or 2;", "eats 1 @not 2;", "eats @and 1;", "eats (@) ;", "eats (1@;", "eats (1 @2);",
            "eats 1 @) ;", "eats ((1)@;", "eats (1 < 2 @< 3);", "eats 1@eats 2;", "eats @eats;", "eats hour@(1);",
            "eats ----- @- 1;", "eats not not not not not @not 1;", "eats ((((( @( 1 ))))));",
            "eats not - ( not - @( 1 ));", "eats not not not not not 1 < @- 1;", "eats ----- @( 1 );",
            "eats ((((( 1 - 1 + @- 1;", "eats (((((1 and @not 1;", "eats 1 - - - - - - @- 1;", "eats 10@a;", "eats 1@hour;", "eats @00001;", "eats1@x;",
            "eats - @not 1;", "eats not @;", "eats - @;", "eats 1 -@", "eats @\u00e9;", "eats 1 @99999;",
        };
        for (String m : marked) {
            faultAt(due, m);
        }
    }

    private static void value(Due due, String e, int want) {
        OneCubeEach x = new OneCubeEach();
        due.be("text of " + e, Due.read(x, "eats " + e + ";odds " + e + ";spends " + e + ";"), 1);
        x.force(1);
        x.customer(0, 3, 8);
        x.set(7, 0, 45);
        for (int what = 10; what < 13; what++) {
            due.be(e + " by told(0, " + what + ")", x.told(0, what), want);
        }
    }

    private static void values(Due due) {
        Object[] pairs = {
            "hour", 8, "hunger", 45, "number", 3, "girl", 1, "cube", 10, "sorts", 4,
            "0", 0, "99", 99, "100", 99, "9999", 99, "0007", 7, "-1", 0, "- -5", 5, "-----5+20", 15,
            "2+3*4", 14, "(2+3)*4", 20, "20-5-3", 12, "20-(5-3)", 18, "2-3+4", 3, "-2*-3", 6, "7- -3", 10,
            "1<2", 1, "2<2", 0, "2=2", 1, "2=3", 0, "1+1<3", 1, "1+(1<3)", 2, "-1<0", 1, "5*(2<3)", 5,
            "7 or 0", 1, "0 or 0", 0, "7 and 2", 1, "7 and 0", 0, "not 7", 0, "not 0", 1, "not not 7", 1,
            "1 or 0 and 0", 1, "(1 or 0) and 0", 0, "not 0 and 0", 0, "not (0 and 0)", 1, "not 1 < 0", 1,
            "(not 1) < 1", 1, "not 2 = 3", 1, "0 or not 0", 1, "(1 < 2) < 2", 1, "3 + (7 or 0)", 4,
            "9999*9999*9999 < 0", 1, "9999*9999*43-417*9999-3157", 7, "9999*9999*21+9999*9999", 0, "9999*9999*22 < 0", 1,
            "0-9999*9999*43 < 0", 1, "hour*10+number", 83, "not not not not not 0", 1, "(((((7)))))", 7,
            "((((1))))+((((1))))", 2, "-(-(-5))+9", 4, "not not not not not 1 < 0 or not 1", 1,
            "hunger<20", 0, "1+hunger<47", 1,
        };
        for (int i = 0; i < pairs.length; i += 2) {
            value(due, (String) pairs[i], (Integer) pairs[i + 1]);
        }
    }

    private static void numbers(Due due) {
        OneCubeEach x = new OneCubeEach();
        x.customer(0, 0, 0);
        for (int i = 1; i < 6; i++) {
            due.be("text " + i, Due.read(x, "eats " + i + ";odds 1;spends 1;"), i);
            due.be("a faulty one between", Due.read(x, "eats 1;"), i < 5 ? -107 : OneCubeEach.FULL);
        }
        due.be("the tape stays", x.count(4), 7);
        due.be("full again", x.text(), OneCubeEach.FULL);
        due.be("feed behind it", x.feed(32), 8);
        due.be("texts", x.count(3), 6);
        due.be("force(6)", x.force(6), OneCubeEach.BAD);
        due.be("force(-1)", x.force(-1), OneCubeEach.BAD);
        due.be("still the first rule", x.count(5), 0);
        int was = 0;
        for (int i = 5; i > 0; i--) {
            due.be("force(" + i + ")", x.force(i), was);
            due.be("eats by text " + i, x.told(0, 10), i);
            due.be("the rule", x.count(5), i);
            was = i;
        }
        due.be("force(0)", x.force(0), 1);
        due.be("eats by text 0", x.told(0, 10), 0);
        x.set(7, 0, 18);
        due.be("eats by text 0, less hungry", x.told(0, 10), 1);
        due.be("tries by text 0", x.told(0, 11), 5);
        x.set(2, 0, 0);
        due.be("tries by text 0, no girl", x.told(0, 11), 6);
        due.be("spends by text 0", x.told(0, 12), 30);
        due.be("force a text that is not there", new OneCubeEach().force(1), OneCubeEach.BAD);
    }

    /** As long as can be: a tape full of one text, and waiting operands at each depth. */
    private static void longOnes(Due due) {
        StringBuilder s = new StringBuilder("eats 1");
        while (s.length() + 2 + "; odds 2; spends 3;".length() <= 160) {
            s.append("+1");
        }
        s.append("; odds 2; spends 3;");
        while (s.length() < 160) {
            s.append('\n');
        }
        OneCubeEach x = Due.by(s.toString());
        x.customer(0, 0, 0);
        due.be("a long sum", x.told(0, 10), (s.indexOf(";") - 5 + 1) / 2);
        String deep = "0 or 1 and 2<3+4*";
        OneCubeEach y = Due.by("eats " + (deep + "(").repeat(5) + deep + "5" + ")".repeat(5) + ";odds 2;spends 3;");
        y.customer(0, 0, 0);
        due.be("a deep one", y.told(0, 10), 1);
    }

    public static void main(String[] args) {
        Due due = new Due();
        feed(due);
        faults(due);
        values(due);
        numbers(due);
        longOnes(due);
        due.end();
    }
}
