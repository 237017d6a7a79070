/** Counts the answers that are not the due ones; a test ends with end(). */
final class Check {
    private final String title;
    private int looked = 0;
    private int wrong = 0;

    Check(String title) {
        this.title = title;
    }

    void due(String what, long got, long want) {
        looked++;
        if (got != want) {
            wrong++;
            System.out.println(title + ": " + what + " answered " + got + ", due is " + want);
        }
    }

    void holds(String what, boolean is) {
        due(what, is ? 1 : 0, 1);
    }

    void end() {
        System.out.println(title + ": " + looked + " answers, " + wrong + " not as due");
        if (wrong != 0) {
            System.exit(1);
        }
    }

    static void feed(CardLoom x, String text) {
        for (int i = 0; i < text.length(); i++) {
            x.feed(text.charAt(i));
        }
    }

    static int thread(CardLoom x, String text) {
        feed(x, text);
        return x.thread();
    }

    static int law(CardLoom x, String text) {
        feed(x, text);
        return x.law();
    }

    /** A new loom threaded by a text, with a LAW by another. */
    static CardLoom loom(String threading, String law) {
        CardLoom x = new CardLoom();
        thread(x, threading);
        law(x, law);
        return x;
    }

    /** THE PAPER as a text. */
    static String paper(CardLoom x) {
        StringBuilder text = new StringBuilder();
        for (int i = 0; x.paper(i) != CardLoom.NONE; i++) {
            text.append((char) x.paper(i));
        }
        return text.toString();
    }

    /** The TURNINGS that the CARDS would get next, a figure each. */
    static String next(CardLoom x) {
        StringBuilder text = new StringBuilder();
        for (int c = 0; c < x.told(0); c++) {
            text.append(x.card(c, 8));
        }
        return text.toString();
    }

    /** The TURNINGS that a CARD got in the ROWS, a figure each. */
    static String turnings(CardLoom x, int card) {
        StringBuilder text = new StringBuilder();
        for (int row = 0; row < x.told(1); row++) {
            text.append(x.turning(row, card));
        }
        return text.toString();
    }

    void same(String what, String got, String want) {
        looked++;
        if (!got.equals(want)) {
            wrong++;
            System.out.println(title + ": " + what + " is '" + got + "', due is '" + want + "'");
        }
    }
}
