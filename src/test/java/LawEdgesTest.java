/** Promise 5: each sentence of Terms 2 that names an edge of a LAW, and a test of it. */
public final class LawEdgesTest {
    private static final Check check = new Check("LawEdgesTest");
    private static final String TEN = "abcdS;abcdS;abcdS;abcdS;abcdS;abcdS;abcdS;abcdS;abcdS;abcdS";

    public static void main(String[] args) {
        numbers();
        figuresTwoAtMost();
        letters();
        kInTurn();
        cBelow();
        xDivides();
        sLater();
        dByCard();
        rChanges();
        mFromTheLast();
        mAsThePickIsDone();
        tOtherwise();
        sixOpen();
        numberOfThePick();
        lettersCounted();
        lawAnew();
        check.end();
    }

    /** What the LAW gives a CARD at PICK n (0 .. 147): s makes up for the picks that no loom has room for. */
    private static int at(String law, int card, int n) {
        CardLoom x = Check.loom(TEN, n < 50 ? law : "s" + (n - 49) + "(" + law + ")");
        for (int i = 0; i < Math.min(n, 49); i++) {
            x.pack(0, 0);
        }
        return x.card(card, 8);
    }

    /** Of k "(N 1 .. 99)", of c "(0 .. 99)", of x "(1 .. 99)", of s any; a 0 ahead is no matter. */
    private static void numbers() {
        for (int n = 0; n <= 99; n++) {
            for (String figures : new String[] {"" + n, n < 10 ? "0" + n : "" + n}) {
                check.due("5: k" + figures, Check.law(new CardLoom(), "k" + figures + "(f,b)"), n == 0 ? -101 : 2);
                check.due("5: x" + figures, Check.law(new CardLoom(), "x" + figures + "(f,b)"), n == 0 ? -101 : 2);
                check.due("5: c" + figures, Check.law(new CardLoom(), "c" + figures + "(f,b)"), 2);
                check.due("5: s" + figures, Check.law(new CardLoom(), "s" + figures + "(f)"), 1);
            }
        }
    }

    /** "A number is as many figures as stand there, 2 at most." */
    private static void figuresTwoAtMost() {
        for (String letter : new String[] {"k", "x", "c", "s"}) {
            String rest = letter.equals("s") ? "(f)" : "(f,b)";
            check.due("5: none, " + letter, Check.law(new CardLoom(), letter + rest), -101);
            check.due("5: three, " + letter, Check.law(new CardLoom(), letter + "100" + rest), -103);
            check.due("5: three with 0 ahead, " + letter, Check.law(new CardLoom(), letter + "010" + rest), -103);
            check.due("5: a sign, " + letter, Check.law(new CardLoom(), letter + "-1" + rest), -101);
            check.due("5: a sign ahead, " + letter, Check.law(new CardLoom(), letter + "+1" + rest), -101);
            check.due("5: apart, " + letter, Check.law(new CardLoom(), letter + "1 0" + rest), -102);
        }
        for (String letter : new String[] {"d", "r", "m"}) {
            check.due("5: a number, " + letter, Check.law(new CardLoom(), letter + "1(f)"), -101);
        }
        check.due("5: a number, t", Check.law(new CardLoom(), "t1(f,b)"), -101);
        check.due("5: a number, f", Check.law(new CardLoom(), "f1"), -101);
    }

    /** "i, f, b, h: IDLE, FORWARD, BACK, HALF for all" and the letters of functions begin a LAW, no other byte does. */
    private static void letters() {
        for (int sign = 1; sign < 128; sign++) {
            boolean isLeaf = "ifbh".indexOf(sign) >= 0;
            boolean isOpener = "kcxsdrmt".indexOf(sign) >= 0;
            int due = isLeaf ? 1 : isOpener ? -101 : -100;
            check.due("5: sign " + sign, Check.law(new CardLoom(), "" + (char) sign), due);
        }
    }

    /** "for N PICKS (N 1 .. 99) as L, for N as M, and so on in turn (n over N, cut: even, odd)" */
    private static void kInTurn() {
        for (int length : new int[] {1, 2, 3, 10, 49, 50, 98, 99}) {
            for (int n : new int[] {0, length - 1, length, 2 * length - 1, 2 * length, 3 * length - 1, 3 * length}) {
                if (n < 148) {
                    int due = n / length % 2 == 0 ? 1 : 2;
                    check.due("5: k" + length + " at " + n, at("k" + length + "(f,b)", 0, n), due);
                }
            }
        }
    }

    /** "CARDS below N (0 .. 99) as L, others as M" */
    private static void cBelow() {
        for (int below : new int[] {0, 1, 2, 5, 9, 10, 11, 99}) {
            CardLoom x = Check.loom(TEN, "c" + below + "(f,b)");
            for (int c = 0; c < 10; c++) {
                check.due("5: c" + below + " of " + c, x.card(c, 8), c < below ? 1 : 2);
            }
        }
    }

    /** "PICKS n of which N (1 .. 99) divides n as M, others as L": 0 is divided by all. */
    private static void xDivides() {
        for (int divisor : new int[] {1, 2, 3, 49, 50, 98, 99}) {
            for (int n : new int[] {0, 1, divisor - 1, divisor, divisor + 1, 2 * divisor}) {
                if (n < 148) {
                    check.due("5: x" + divisor + " at " + n, at("x" + divisor + "(f,b)", 0, n), n % divisor == 0 ? 2 : 1);
                }
            }
        }
    }

    /** "as L has it N PICKS later (n plus N)" */
    private static void sLater() {
        for (int later : new int[] {0, 1, 2, 98, 99}) {
            check.due("5: s" + later, at("s" + later + "(x99(f,b))", 0, 99 - later), 2);
            check.due("5: s" + later + " ahead", at("s" + later + "(x99(f,b))", 0, 98 - later < 0 ? 1 : 98 - later), 1);
        }
        check.due("5: six times 99", at("s99(s99(s99(s99(s99(k99(f,b))))))", 0, 0), 2);
        check.due("5: and one less", at("s99(s99(s99(s99(s98(k99(f,b))))))", 0, 0), 1);
        check.due("5: 495 is no 494", at("s99(s99(s99(s99(s98(x45(f,b))))))", 0, 1), 2);
    }

    /** "CARD c as L has it c PICKS later" */
    private static void dByCard() {
        CardLoom x = Check.loom(TEN, "d(x9(f,b))");
        for (int c = 0; c < 10; c++) {
            check.due("5: d of " + c, x.card(c, 8), c == 0 || c == 9 ? 2 : 1);
        }
        Check.law(x, "d(k9(f,b))");
        check.same("5: d, later and not sooner", Check.next(x), "1111111112");
        x.turn(0, 0);
        check.same("5: d of the next", Check.next(x), "1111111122");
        x.unweave(1);
        Check.law(x, "d(d(d(d(d(x45(f,b))))))");
        for (int c = 0; c < 10; c++) {
            check.due("5: five d of " + c, x.card(c, 8), c == 0 || c == 9 ? 2 : 1);
        }
    }

    /** "as L, FORWARD and BACK changed" */
    private static void rChanges() {
        CardLoom x = Check.loom(TEN, "r(c1(i,c2(f,c3(b,h))))");
        check.same("5: r", Check.next(x), "0213333333");
    }

    /** "CARD c as L has the CARD as far from the last as c is from the first" */
    private static void mFromTheLast() {
        for (int cards = 1; cards <= 10; cards++) {
            CardLoom x = Check.loom(TEN.substring(0, 6 * cards - 1), "m(c1(f,b))");
            for (int c = 0; c < cards; c++) {
                check.due("5: m of " + c + " of " + cards, x.card(c, 8), c == cards - 1 ? 1 : 2);
            }
            Check.law(x, "m(d(x9(f,b)))");
            for (int c = 0; c < cards; c++) {
                int other = cards - 1 - c;
                check.due("5: m(d) of " + c + " of " + cards, x.card(c, 8), other % 9 == 0 ? 2 : 1);
            }
            Check.law(x, "d(m(c1(x9(f,b),h)))");
            check.due("5: d(m) of " + cards, x.card(cards - 1, 8), (cards - 1) % 9 == 0 ? 2 : 1);
        }
    }

    /** "(by how many are THREADED as the PICK is done)": not as the LAW was told. */
    private static void mAsThePickIsDone() {
        CardLoom x = new CardLoom();
        check.due("5: with no cards", Check.law(x, "m(c1(f,b))"), 2);
        for (int cards : new int[] {3, 10, 1, 2}) {
            Check.thread(x, TEN.substring(0, 6 * cards - 1));
            x.weave(1);
            for (int c = 0; c < cards; c++) {
                check.due("5: card " + c + " of " + cards, x.turning(0, c), c == cards - 1 ? 1 : 2);
            }
        }
        x.image();
        Check.thread(x, TEN);
        x.undo();
        check.same("5: two again", Check.next(x), "21");
    }

    /** "as L, where that isn't IDLE, otherwise as M" */
    private static void tOtherwise() {
        String[] leaves = {"i", "f", "b", "h"};
        for (int one = 0; one < 4; one++) {
            for (int two = 0; two < 4; two++) {
                CardLoom x = Check.loom("abcdS", "t(" + leaves[one] + "," + leaves[two] + ")");
                check.due("5: t of " + one + " and " + two, x.card(0, 8), one != 0 ? one : two);
            }
        }
    }

    /** "A ( within 6 others is none." */
    private static void sixOpen() {
        String[] openers = {"k1(", "c10(", "x2(", "s1(", "d(", "r(", "m(", "t("};
        String[] ends = {",f)", ",f)", ",f)", ")", ")", ")", ")", ",f)"};
        for (int i = 0; i < openers.length; i++) {
            String five = openers[i].repeat(5) + "f" + ends[i].repeat(5);
            int leaves = 1 + (ends[i].length() == 3 ? 6 : 0);
            check.due("5: six of " + openers[i], Check.law(new CardLoom(), openers[i] + five + ends[i]), leaves);
            for (int kind = 0; kind < openers.length; kind++) {
                String seven = openers[i].repeat(6) + openers[kind];
                int due = -100 - 6 * openers[i].length();
                check.due("5: '" + seven + "'", Check.law(new CardLoom(), seven), due);
                check.due("5: '" + seven + "f'", Check.law(new CardLoom(), seven + "f" + ends[kind]), due);
            }
        }
        check.due("5: six, then six", Check.law(new CardLoom(), "t(r(r(r(r(r(f))))),r(r(r(r(r(b))))))"), 2);
        check.due("5: six, then seven", Check.law(new CardLoom(), "t(r(r(r(r(r(f))))),r(r(r(r(r(r(b)))))))"), -129);
    }

    /**
     * "a number n of a PICK (0, 1, ..)"; "the next PICK by it has the number PICKS"; "(ROWS taken back are not counted,
     * too: it is as many less)"
     */
    private static void numberOfThePick() {
        CardLoom x = Check.loom("abcdS", "x2(f,b)");
        for (int n = 0; n < 50; n++) {
            check.due("5: ahead of pick " + n, x.card(0, 8), n % 2 == 0 ? 2 : 1);
            check.due("5: pick " + n, n % 3 == 0 ? x.turn(0, 0) : x.weave(1) + n, n + 1);
        }
        check.due("5: pick 50 has no room", x.card(0, 8), 2);
        x.unweave(1);
        check.due("5: one is taken back", x.card(0, 8), 1);
        x.unweave(49);
        check.due("5: all are taken back", x.card(0, 8), 2);
    }

    /** "how many letters i, f, b, h it has": of 1 to 24, none that stands for a function. */
    private static void lettersCounted() {
        String law = "f";
        for (int n = 1; n <= 4; n++) {
            check.due("5: letters of " + law, Check.law(new CardLoom(), law), 1 << n - 1);
            law = "t(" + law + "," + law + ")";
        }
        check.due("5: each kind", Check.law(new CardLoom(), "k1(c1(x1(i,f),b),t(h,s1(d(r(m(i))))))"), 5);
    }

    /** "THE TAPE is the LAW then": nothing is left of the one before, nor of a text with a FAULT. */
    private static void lawAnew() {
        CardLoom x = Check.loom("abcdS;abcdS;abcdS", "t(k1(c1(f,b),i),t(x2(h,f),c2(h,i)))");
        check.same("5: the first", Check.next(x), "122");
        check.due("5: a short one", Check.law(x, "b"), 1);
        check.same("5: a short one", Check.next(x), "222");
        check.due("5: a fault behind much", Check.law(x, "t(k1(c1(f,b),i),t(x2(h,f),c2(h,i))"), -134);
        check.same("5: the short one stays", Check.next(x), "222");
        check.due("5: a long one", Check.law(x, "c1(r(h),c2(s1(k1(f,b)),m(c1(i,f))))"), 5);
        check.same("5: a long one", Check.next(x), "320");
        check.due("5: a fault", Check.law(x, "c1(f"), -104);
        check.same("5: the long one stays", Check.next(x), "320");
        check.due("5: the first again", Check.law(x, "t(k1(c1(f,b),i),t(x2(h,f),c2(h,i)))"), 7);
        x.turn(0, 0);
        check.same("5: at 1", Check.next(x), "333");
    }
}
