/** Promises 1 to 5, 35, 36: each sentence of the document that names an edge of a text, and a test of it. */
public final class TextEdgesTest {
    private static final Check check = new Check("TextEdgesTest");
    private static final int NONE = CardLoom.NONE;
    private static final String TEN = "abcdS;efghZ;ijabS;cdefZ;ghijS;aaaaZ;jjjjS;abcdZ;jihgS;fedcZ";

    public static void main(String[] args) {
        newObject();
        feedBytes();
        feedFull();
        clearEmptyAndFull();
        threadingOfOneToTen();
        threadingTooEarly();
        threadingEachPlace();
        threadingLetters();
        threadingLeastPlace();
        threadingAnew();
        lawTooEarly();
        lawEachPlace();
        lawLeastPlace();
        lawTapeFull();
        tapeIsEmptyBehind();
        spelledEdges();
        paperEdges();
        check.end();
    }

    /** 1: "No CARDS."; "none at first", "nothing at first", "IDLE for all at first", "0 at first". */
    private static void newObject() {
        for (int what = 0; what < 8; what++) {
            check.due("1: told " + what, new CardLoom().told(what), 0);
        }
        check.due("1: card", new CardLoom().card(0, 0), NONE);
        check.due("1: paper", new CardLoom().paper(0), NONE);
        check.due("1: lines", new CardLoom().lines(1), 0);
        check.due("1: clear", new CardLoom().clear(), 0);
        check.due("1: no image", new CardLoom().undo(), CardLoom.STATE);
        for (int list = 0; list < 4; list++) {
            check.due("1: list " + list, new CardLoom().set(list, 0, 0), -11);
        }
        CardLoom x = new CardLoom();
        Check.thread(x, TEN);
        check.same("1: the law at first", Check.next(x), "0000000000");
        x.lines(8);
        for (int line = 0; line < 8; line++) {
            for (int c = 0; c < 10; c++) {
                check.due("1: the picture at first", x.paint(line, c, 0), 0);
            }
        }
    }

    /** 2: "A byte (1 .. 127) comes behind THE TAPE's: how many it has. BAD". */
    private static void feedBytes() {
        CardLoom x = new CardLoom();
        int had = 0;
        for (int letter = -300; letter <= 400; letter++) {
            boolean isByte = letter >= 1 && letter <= 127;
            if (had == 80) {
                x = new CardLoom();
                had = 0;
            }
            had += isByte ? 1 : 0;
            check.due("2: feed(" + letter + ")", x.feed(letter), isByte ? had : CardLoom.BAD);
        }
    }

    /** 2: "THE TAPE holds 0 .. 80 bytes"; "BAD; FULL". */
    private static void feedFull() {
        CardLoom x = new CardLoom();
        for (int i = 1; i <= 80; i++) {
            check.due("2: byte " + i, x.feed(127), i);
        }
        check.due("2: the 81st", x.feed(127), CardLoom.FULL);
        check.due("2: the 81st, 1", x.feed(1), CardLoom.FULL);
        check.due("2: BAD ahead of FULL, 0", x.feed(0), CardLoom.BAD);
        check.due("2: BAD ahead of FULL, 128", x.feed(128), CardLoom.BAD);
        check.due("2: still full", x.told(6), 80);
    }

    /** 3: "THE TAPE is empty then: how many bytes it had." */
    private static void clearEmptyAndFull() {
        CardLoom x = new CardLoom();
        check.due("3: none", x.clear(), 0);
        x.feed('f');
        check.due("3: one", x.clear(), 1);
        Check.feed(x, "f".repeat(80));
        check.due("3: full", x.clear(), 80);
        check.due("3: empty then", x.told(6), 0);
        check.due("3: there is room then", x.feed('f'), 1);
    }

    /** 4: "A THREADING as a text: CARDS, 1 to 10, parted by ;". */
    private static void threadingOfOneToTen() {
        for (int cards = 1; cards <= 10; cards++) {
            CardLoom x = new CardLoom();
            check.due("4: cards", Check.thread(x, TEN.substring(0, 6 * cards - 1)), cards);
            check.due("4: told", x.told(0), cards);
            check.due("4: the last", x.card(cards - 1, 0), TEN.charAt(6 * cards - 6) - 'a');
            check.due("4: none behind it", x.card(cards, 0), NONE);
        }
        check.due("4: none", Check.thread(new CardLoom(), ""), -100);
        check.due("4: an eleventh begins", Check.thread(new CardLoom(), TEN + ";"), -159);
        check.due("4: eleven", Check.thread(new CardLoom(), TEN + ";aaaaS"), -159);
        check.due("4: a byte behind ten", Check.thread(new CardLoom(), TEN + "a"), -159);
        check.due("4: 80 bytes", Check.thread(new CardLoom(), (TEN + ";" + TEN).substring(0, 80)), -159);
    }

    /** 4: "the length, if it ends too early". */
    private static void threadingTooEarly() {
        for (int length = 0; length < TEN.length(); length++) {
            int due = length % 6 == 5 ? length / 6 + 1 : -100 - length;
            check.due("4: the first " + length, Check.thread(new CardLoom(), TEN.substring(0, length)), due);
        }
    }

    /** 4: "otherwise the place (from 0) of the first byte with which no such text goes on". */
    private static void threadingEachPlace() {
        for (int at = 0; at < TEN.length(); at++) {
            for (char sign : new char[] {'k', 'A', '`', 's', ' ', 1, 127}) {
                String text = TEN.substring(0, at) + sign + TEN.substring(at + 1);
                check.due("4: '" + text + "'", Check.thread(new CardLoom(), text), -100 - at);
            }
        }
    }

    /** 4: "four letters a .. j, S or Z". */
    private static void threadingLetters() {
        String card = "abcdS;abcdZ";
        for (int at = 0; at < card.length(); at++) {
            for (int sign = 1; sign < 128; sign++) {
                boolean isColour = sign >= 'a' && sign <= 'j';
                boolean isSlant = sign == 'S' || sign == 'Z';
                boolean fits = at % 6 < 4 ? isColour : at % 6 == 4 ? isSlant : sign == ';';
                String text = card.substring(0, at) + (char) sign + card.substring(at + 1);
                CardLoom x = new CardLoom();
                check.due("4: sign " + sign + " at " + at, Check.thread(x, text), fits ? 2 : -100 - at);
                if (fits && at % 6 < 4) {
                    check.due("4: the colour of " + sign, x.card(at / 6, at % 6), sign - 'a');
                } else if (fits && at % 6 == 4) {
                    check.due("4: the slant of " + sign, x.card(at / 6, 4), sign == 'Z' ? 1 : 0);
                }
            }
        }
    }

    /** 4: "(of several the least place)". */
    private static void threadingLeastPlace() {
        check.due("4: two", Check.thread(new CardLoom(), "abkdX;abcdS"), -102);
        check.due("4: one, and too early", Check.thread(new CardLoom(), "abcdS;abZ"), -108);
        check.due("4: one, and too long", Check.thread(new CardLoom(), TEN.replace("jjjj", "jkjj") + ";x"), -137);
    }

    /** 4: "all CARDS are anew by it (PLACES, TWISTS 0), no ROWS, PICKS 0". */
    private static void threadingAnew() {
        CardLoom x = Check.loom(TEN, "c5(f,h)");
        x.weave(50);
        x.unweave(1);
        for (int c = 0; c < 10; c++) {
            x.place(c, 3);
        }
        check.due("4: the same again", Check.thread(x, TEN), 10);
        for (int c = 0; c < 10; c++) {
            check.due("4: place " + c, x.card(c, 5), 0);
            check.due("4: twist " + c, x.card(c, 6), 100);
            check.due("4: float " + c, x.card(c, 7), 0);
        }
        check.due("4: no rows", x.told(1), 0);
        check.due("4: picks", x.told(2), 0);
        check.due("4: row 0", x.front(0, 0), NONE);
        check.due("4: nothing to take back", x.unweave(50), 0);
        check.due("4: room for all", x.weave(50), 49);
    }

    /** 5: "the length, if it ends too early". */
    private static void lawTooEarly() {
        String six = "t(t(t(t(t(t(f,f),f),f),f),f),f)";
        for (String law : new String[] {"k12(c3(f,b),x45(i,h))", "s67(d(r(m(t(f,b)))))", six}) {
            for (int length = 0; length < law.length(); length++) {
                CardLoom x = new CardLoom();
                check.due("5: the first " + length + " of " + law, Check.law(x, law.substring(0, length)), -100 - length);
            }
        }
    }

    /** 5: "otherwise the place (from 0) of the first byte with which no such text goes on". */
    private static void lawEachPlace() {
        String law = "k12(c34(f,b),x5(s67(d(i)),r(m(t(h,f)))))";
        for (int at = 0; at < law.length(); at++) {
            for (char sign : new char[] {'a', 'F', ' ', ';', '*', '/', ':', 1, 127}) {
                String text = law.substring(0, at) + sign + law.substring(at + 1);
                check.due("5: '" + text + "'", Check.law(new CardLoom(), text), -100 - at);
            }
            String more = law.substring(0, at) + "#" + law.substring(at);
            check.due("5: '" + more + "'", Check.law(new CardLoom(), more), -100 - at);
        }
        check.due("5: a byte behind it", Check.law(new CardLoom(), law + "f"), -100 - law.length());
        check.due("5: it itself", Check.law(new CardLoom(), law), 5);
    }

    /** 5: "(of several the least place): of a number that may not be (looked at as soon as it is taken) where it begins". */
    private static void lawLeastPlace() {
        String[] texts = {"k0(q,f)", "k0(f", "k0", "k00", "k0x", "x0(k0(f,b),f)", "k1(k0(f,b),q)", "k1(q,k0(f,b))",
            "t(x0(f,b))", "k00)", "c1(x00(f,b),", "k0f", "f0", "k000(f,b)", "x0,"};
        int[] faults = {1, 1, 1, 1, 1, 1, 4, 3, 3, 1, 4, 1, 1, 1, 1};
        for (int i = 0; i < texts.length; i++) {
            check.due("5: '" + texts[i] + "'", Check.law(new CardLoom(), texts[i]), -100 - faults[i]);
        }
    }

    /** 5: THE TAPE's 80 bytes are a LAW, if they are one; of 79 it lacks the last. */
    private static void lawTapeFull() {
        String law = "t(t(t(t(f,f),t(f,f)),t(t(f,f),t(f,f))),t(t(t(f,f),r(f)),t(t(f,f),t(f,c1(f,b)))))";
        check.due("5: the length", law.length(), 80);
        check.due("5: of 80 bytes", Check.law(new CardLoom(), law), 16);
        check.due("5: of 79 bytes", Check.law(new CardLoom(), law.substring(0, 79)), -179);
        String open = "t(" + law.substring(0, 78);
        check.due("5: 80 bytes end too early", Check.law(new CardLoom(), open), -180);
        check.due("5: 80 leaves", Check.law(new CardLoom(), "f".repeat(80)), -101);
    }

    /** "THE TAPE is empty behind each call that reads it." */
    private static void tapeIsEmptyBehind() {
        CardLoom x = new CardLoom();
        for (String text : new String[] {"", "q", "abcdS", "f", "abcdS;", "k0"}) {
            Check.law(x, text);
            check.due("5: empty behind '" + text + "'", x.clear(), 0);
            Check.thread(x, text);
            check.due("4: empty behind '" + text + "'", x.clear(), 0);
        }
        Check.feed(x, "xyz");
        x.weave(1);
        x.spell();
        x.image();
        x.undo();
        check.due("3: no other call reads it", x.clear(), 3);
    }

    /** 35: "how many bytes (0: no CARDS)". */
    private static void spelledEdges() {
        check.due("35: no cards", new CardLoom().spell(), 0);
        for (int cards = 1; cards <= 10; cards++) {
            CardLoom x = new CardLoom();
            String text = TEN.substring(0, 6 * cards - 1);
            Check.thread(x, text);
            check.due("35: bytes", x.spell(), 6 * cards - 1);
            check.same("35: spelled", Check.paper(x), text);
            check.due("37: bytes of the paper", x.told(7), 6 * cards - 1);
        }
    }

    /** 36: "Byte i of THE PAPER. NONE."; "THE PAPER holds the latest one". */
    private static void paperEdges() {
        CardLoom x = new CardLoom();
        Check.thread(x, TEN);
        check.due("36: not spelled yet", x.paper(0), NONE);
        x.spell();
        check.due("36: byte 0", x.paper(0), 'a');
        check.due("36: byte 58", x.paper(58), 'Z');
        check.due("36: byte 59", x.paper(59), NONE);
        check.due("36: byte -1", x.paper(-1), NONE);
        Check.thread(x, "jjjjS");
        check.due("36: the latest one, still", x.paper(58), 'Z');
        x.spell();
        check.due("36: byte 0 of the next", x.paper(0), 'j');
        check.due("36: byte 4 of the next", x.paper(4), 'S');
        check.due("36: byte 5 of the next", x.paper(5), NONE);
    }
}
