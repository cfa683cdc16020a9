/** Counts the answers that are not as due, and tells each of them. */
public final class Due {
    private int wrong = 0;
    private int asked = 0;

    public void be(String call, long got, long want) {
        asked++;
        if (got != want) {
            wrong++;
            System.out.println(call + " answered " + got + ", due is " + want);
        }
    }

    public void hold(String claim, boolean holds) {
        asked++;
        if (!holds) {
            wrong++;
            System.out.println("does not hold: " + claim);
        }
    }

    public int wrong() {
        return wrong;
    }

    /** Feeds a text, reads it, and answers what text() did. */
    public static int read(OneCubeEach x, String text) {
        for (int i = 0; i < text.length(); i++) {
            x.feed(text.charAt(i));
        }
        return x.text();
    }

    /** An object by whose rule all is as the text says. */
    public static OneCubeEach by(String text) {
        OneCubeEach x = new OneCubeEach();
        int number = read(x, text);
        if (number != 1 || x.force(1) != 0) {
            throw new IllegalStateException("no text: " + text);
        }
        return x;
    }

    public static void row(OneCubeEach x, int sheet, int sort, int... cells) {
        x.sheet(sheet, sort, cells.length);
        for (int i = 0; i < cells.length; i++) {
            x.cell(sheet, i, cells[i]);
        }
    }

    public void end() {
        System.out.println(wrong == 0 ? "all " + asked + " as due" : wrong + " of " + asked + " not as due");
        if (wrong != 0) {
            System.exit(1);
        }
    }
}
