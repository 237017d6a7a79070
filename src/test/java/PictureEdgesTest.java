/** Promises 22 to 27: each sentence that names an edge of the PICTURE or the DRAFT, and a test of it. */
public final class PictureEdgesTest {
    private static final Check check = new Check("PictureEdgesTest");
    private static final int NONE = CardLoom.NONE, BAD = CardLoom.BAD, STATE = CardLoom.STATE, FULL = CardLoom.FULL,
        LOST = -5;
    private static final String TEN = "abcdS;abcdS;abcdS;abcdS;abcdS;abcdS;abcdS;abcdS;abcdS;abcdS";

    public static void main(String[] args) {
        paintEachPlace();
        paintColours();
        linesNumber();
        linesNewAndOld();
        draftNone();
        draftWraps();
        draftOrder();
        draftLost();
        draftWithoutHalf();
        draftIsOfNow();
        draftOfEachHeight();
        twistsAreNoMatter();
        fewestNumber();
        fewestNoneToSum();
        weaveDraftState();
        weaveDraftRoom();
        weaveDraftIsTheDraft();
        weaveDraftTo99();
        matchesNone();
        matchesEnds();
        check.end();
    }

    /** The PICTURE has a CARD's COLOURS, LINE by LINE, and as many LINES. */
    private static void column(CardLoom x, int card, String colours) {
        x.lines(colours.length());
        for (int line = 0; line < colours.length(); line++) {
            x.paint(line, card, colours.charAt(line) - 'a');
        }
    }

    private static String drafted(CardLoom x, int card) {
        StringBuilder text = new StringBuilder();
        for (int line = 0; line < x.told(4); line++) {
            text.append(x.draft(line, card));
        }
        return text.toString();
    }

    /** A CARD that stands with a PLACE on top, and the DRAFT of a column. */
    private static void drafts(String card, int place, String colours, String due) {
        CardLoom x = Check.loom(card + "S", "i");
        x.place(0, place);
        column(x, 0, colours);
        check.same("24: " + card + " from " + place + " for " + colours, drafted(x, 0), due);
        int turns = due.startsWith("-") ? LOST : due.replace("0", "").length();
        check.due("25: " + card + " from " + place + " for " + colours, x.fewest(0), turns);
        check.due("25: all together", x.fewest(-1), turns);
    }

    /**
     * 22: "up to 8 LINES, each of a COLOUR for each of CARDS 0 .. 9"; "NONE: line (none of the LINES), card (0 .. 9)":
     * CARDS of the PICTURE need not be THREADED.
     */
    private static void paintEachPlace() {
        for (int lines = 0; lines <= 8; lines++) {
            CardLoom x = new CardLoom();
            x.lines(lines);
            for (int line = -1; line <= 8; line++) {
                for (int card = -1; card <= 10; card++) {
                    boolean is = line >= 0 && line < lines && card >= 0 && card < 10;
                    int colour = Math.floorMod(line + card, 10);
                    check.due("22: (" + line + ", " + card + ")", x.paint(line, card, colour), is ? 0 : NONE);
                }
            }
            for (int line = 0; line < lines; line++) {
                for (int card = 0; card < 10; card++) {
                    check.due("22: it was", x.paint(line, card, 0), (line + card) % 10);
                }
            }
        }
    }

    /** 22: "BAD"; a COLOUR is 0 .. 9; NONE is named ahead. */
    private static void paintColours() {
        CardLoom x = new CardLoom();
        x.lines(8);
        int was = 0;
        for (int colour = -2; colour <= 12; colour++) {
            boolean is = colour >= 0 && colour <= 9;
            check.due("22: colour " + colour, x.paint(7, 9, colour), is ? was : BAD);
            was = is ? colour : was;
            check.due("22: NONE ahead, line 8", x.paint(8, 9, colour), NONE);
            check.due("22: NONE ahead, card 10", x.paint(7, 10, colour), NONE);
        }
    }

    /** 23: "The PICTURE has n LINES (0 .. 8; 0 at first)"; "how many it had. BAD." */
    private static void linesNumber() {
        CardLoom x = new CardLoom();
        int had = 0;
        for (int n : new int[] {0, 8, 9, -1, 0, 1, 7, 8, 8, 10, 3, 0}) {
            boolean is = n >= 0 && n <= 8;
            check.due("23: n " + n, x.lines(n), is ? had : BAD);
            had = is ? n : had;
            check.due("23: lines then", x.told(4), had);
        }
    }

    /** 23: "those that are new with COLOUR 0": those that stay keep theirs, those that come again are new. */
    private static void linesNewAndOld() {
        for (int n = 0; n <= 8; n++) {
            CardLoom x = new CardLoom();
            x.lines(8);
            for (int line = 0; line < 8; line++) {
                x.paint(line, 0, 1 + line);
                x.paint(line, 9, 9 - line);
            }
            x.lines(n);
            x.lines(8);
            for (int line = 0; line < 8; line++) {
                check.due("23: line " + line + " of " + n, x.paint(line, 0, 0), line < n ? 1 + line : 0);
                check.due("23: line " + line + " of " + n, x.paint(line, 9, 0), line < n ? 9 - line : 0);
            }
        }
    }

    /** 24: "NONE: line, card (no such CARD is THREADED)". */
    private static void draftNone() {
        for (int lines = 0; lines <= 8; lines++) {
            CardLoom x = Check.loom("aaaaS;aaaaS", "i");
            x.lines(lines);
            for (int line = -1; line <= 8; line++) {
                for (int card = -1; card <= 3; card++) {
                    boolean is = line >= 0 && line < lines && card >= 0 && card < 2;
                    check.due("24: (" + line + ", " + card + ") of " + lines, x.draft(line, card), is ? 0 : NONE);
                }
            }
        }
        CardLoom none = new CardLoom();
        none.lines(8);
        check.due("24: no cards", none.draft(0, 0), NONE);
    }

    /** 24: a PLACE goes round, modulo 4: FORWARD from 3 to 0, BACK from 0 to 3. */
    private static void draftWraps() {
        drafts("abcd", 3, "abcdabcd", "11111111");
        drafts("abcd", 0, "dcbadcba", "22222222");
        drafts("abcd", 3, "a", "1");
        drafts("abcd", 0, "d", "2");
        drafts("abcd", 2, "c", "0");
        drafts("abcd", 2, "dadad", "11212");
    }

    /** 24: "of several such: FORWARD ahead of BACK ahead of IDLE in the first PICK in which they differ". */
    private static void draftOrder() {
        drafts("abab", 0, "b", "1");
        drafts("abab", 0, "ba", "11");
        drafts("abab", 0, "babababa", "11111111");
        drafts("aaab", 0, "ab", "02");
        drafts("aaab", 1, "ab", "11");
        drafts("aaab", 1, "aab", "101");
        drafts("aabc", 0, "ab", "11");
        drafts("abca", 0, "ac", "22");
        drafts("aacb", 1, "ab", "22");
        drafts("aacb", 1, "aab", "202");
        drafts("abcb", 0, "bbb", "100");
        drafts("abcb", 0, "bbc", "101");
        drafts("abba", 0, "bbb", "100");
        drafts("abba", 0, "aab", "001");
        drafts("abba", 3, "aab", "002");
    }

    /** 24: "A CARD for which there are none is LOST"; "-5: it is LOST", for each LINE. */
    private static void draftLost() {
        drafts("abcd", 0, "c", "-5");
        drafts("abcd", 0, "ab" + "d", "-5-5-5");
        drafts("abcd", 0, "aaaaaaae", "-5".repeat(8));
        drafts("abcd", 0, "j", "-5");
        CardLoom x = Check.loom("abcdS;abcdS", "i");
        column(x, 1, "ac");
        check.due("24: lost, line 2", x.draft(2, 1), NONE);
        check.due("24: the other one", x.draft(1, 0), 0);
        check.due("25: the other one", x.fewest(0), 0);
        check.due("25: one is lost", x.fewest(-1), LOST);
        x.recolour(1, 1, 2);
        check.due("24: found", x.draft(1, 1), 1);
        check.due("25: none is lost", x.fewest(-1), 1);
    }

    /** 24: "TURNINGS IDLE, FORWARD, BACK": none is HALF. */
    private static void draftWithoutHalf() {
        drafts("abcb", 0, "c", "-5");
        drafts("abcb", 0, "bc", "11");
        drafts("abcb", 2, "a", "-5");
        drafts("abcb", 3, "cba", "211");
        drafts("abab", 0, "aa", "00");
    }

    /** 24: "by which, from now, the FRONT of each ROW is as the PICTURE's LINE (for CARDS that are THREADED)". */
    private static void draftIsOfNow() {
        CardLoom x = Check.loom("abcdS", "i");
        column(x, 0, "b");
        check.due("24: from 0", x.draft(0, 0), 1);
        x.turn(0, 1);
        check.due("24: from 1", x.draft(0, 0), 0);
        x.turn(0, 1);
        check.due("24: from 2", x.draft(0, 0), 2);
        x.turn(0, 1);
        check.due("24: from 3", x.draft(0, 0), LOST);
        x.unweave(2);
        check.due("24: from 1 again", x.draft(0, 0), 0);
        x.place(0, 2);
        check.due("24: by place()", x.draft(0, 0), 2);
        x.recolour(0, 3, 1);
        check.due("24: by recolour()", x.draft(0, 0), 1);
        x.paint(0, 0, 2);
        check.due("24: by paint()", x.draft(0, 0), 0);
    }

    /** 24: "for as many PICKS as there are LINES": nothing is left of a PICTURE with more of them, or with fewer. */
    private static void draftOfEachHeight() {
        CardLoom x = Check.loom("abcdS;aabbS", "i");
        for (int lines : new int[] {8, 5, 8, 1, 0, 3, 2}) {
            column(x, 1, "babaabba".substring(0, lines));
            column(x, 0, "dcbabcda".substring(0, lines));
            check.same("24: first of " + lines, drafted(x, 0), "22221111".substring(0, lines));
            check.due("25: first of " + lines, x.fewest(0), lines);
            column(x, 0, "aaaaaaaa".substring(0, lines));
            check.due("25: first for a", x.fewest(0), 0);
            column(x, 0, "bbbbbbbb".substring(0, lines));
            check.due("25: first for b", x.fewest(0), Math.min(lines, 1));
            column(x, 0, "baaaaaaa".substring(0, lines));
            check.due("25: first for b, then a", x.fewest(0), Math.min(lines, 2));
        }
    }

    /** 24: "(TWISTS are no matter.)": there is a DRAFT that would JAM, or for which there is no room. */
    private static void twistsAreNoMatter() {
        CardLoom x = Check.loom("abcdS", "h");
        x.weave(49);
        x.turn(0, 1);
        check.due("6: 99", x.card(0, 6), 199);
        x.place(0, 0);
        column(x, 0, "bcdabcda");
        check.same("24: all forward", drafted(x, 0), "11111111");
        check.due("25: eight", x.fewest(0), 8);
        check.due("26: but no room", x.weaveDraft(), FULL);
    }

    /** 25: "all CARDS together (card -1; -5: one is LOST). NONE: below -1, too." */
    private static void fewestNumber() {
        CardLoom x = Check.loom("abcdS;dcabS;aaaaS", "i");
        x.lines(2);
        int[] due = {NONE, NONE, 0, 0, LOST, 0, NONE, NONE};
        for (int card = -3; card <= 4; card++) {
            if (card != -1) {
                check.due("25: card " + card, x.fewest(card), due[card + 3]);
            }
        }
        check.due("25: one is lost", x.fewest(-1), LOST);
        x.place(1, 2);
        x.paint(0, 0, 1);
        check.due("25: card 0", x.fewest(0), 2);
        check.due("25: card 1", x.fewest(1), 0);
        check.due("25: all", x.fewest(-1), 2);
        x = Check.loom(TEN, "i");
        for (int c = 0; c < 10; c++) {
            column(x, c, "bcdabcda");
        }
        check.due("25: ten cards", x.fewest(-1), 80);
        check.due("25: the tenth", x.fewest(9), 8);
        check.due("25: card 10", x.fewest(10), NONE);
        x.paint(7, 9, 9);
        check.due("25: the tenth is lost", x.fewest(-1), LOST);
    }

    /** 25: of no LINES and of no CARDS all that is counted is 0. */
    private static void fewestNoneToSum() {
        check.due("25: no cards, no lines", new CardLoom().fewest(-1), 0);
        check.due("25: no card 0", new CardLoom().fewest(0), NONE);
        CardLoom x = new CardLoom();
        x.lines(3);
        check.due("25: no cards", x.fewest(-1), 0);
        x = Check.loom("abcdS", "i");
        check.due("25: no lines, all", x.fewest(-1), 0);
        check.due("25: no lines", x.fewest(0), 0);
    }

    /** 26: "STATE: no CARDS, no LINES, one is LOST". */
    private static void weaveDraftState() {
        CardLoom x = new CardLoom();
        check.due("26: no cards, no lines", x.weaveDraft(), STATE);
        x.lines(1);
        check.due("26: no cards", x.weaveDraft(), STATE);
        Check.thread(x, "abcdS;abcdS");
        x.lines(0);
        check.due("26: no lines", x.weaveDraft(), STATE);
        x.lines(1);
        check.due("26: one line", x.weaveDraft(), 1);
        x.paint(0, 1, 2);
        check.due("26: one is lost", x.weaveDraft(), STATE);
        x.paint(0, 1, 1);
        check.due("26: none is lost", x.weaveDraft(), 2);
        x.paint(0, 2, 9);
        check.due("26: no card 2", x.weaveDraft(), 3);
        x.weave(50);
        x.paint(0, 0, 2);
        check.due("26: lost ahead of FULL", x.weaveDraft(), STATE);
        x.lines(0);
        check.due("26: no lines ahead of FULL", x.weaveDraft(), STATE);
    }

    /** 26: "FULL: not so many ROWS more". */
    private static void weaveDraftRoom() {
        for (int lines = 1; lines <= 8; lines++) {
            CardLoom x = Check.loom("aaaaS", "i");
            x.lines(lines);
            x.weave(50 - lines);
            check.due("26: just room for " + lines, x.weaveDraft(), 50);
            check.due("26: full", x.weaveDraft(), FULL);
            x.unweave(lines);
            x.turn(0, 0);
            check.due("26: one too few for " + lines, x.weaveDraft(), FULL);
            check.due("26: nothing is done", x.told(1), 51 - lines);
        }
    }

    /** 26: "PICKS by the DRAFT, one for each LINE: how many ROWS there are." */
    private static void weaveDraftIsTheDraft() {
        CardLoom x = Check.loom("abcdS;aacbZ", "h");
        x.turn(1, 1);
        column(x, 0, "abcbadcd");
        column(x, 1, "aabccbaa");
        String first = drafted(x, 0);
        String second = drafted(x, 1);
        check.same("24: first", first, "01122221");
        check.same("24: second", second, "20220110");
        check.due("26: nine rows", x.weaveDraft(), 9);
        check.same("17: first", Check.turnings(x, 0), "0" + first);
        check.same("17: second", Check.turnings(x, 1), "1" + second);
        check.due("27: all of them", x.matches(1), 16);
        check.due("37: picks", x.told(2), 9);
    }

    /** 26: a TWIST of 99 is not beyond 99: the draft's pick that brings it there is done. */
    private static void weaveDraftTo99() {
        CardLoom x = Check.loom("abcdS", "h");
        x.weave(49);
        x.place(0, 3);
        x.lines(1);
        check.due("24: forward", x.draft(0, 0), 1);
        check.due("26: the 50th", x.weaveDraft(), 50);
        check.due("26: 99", x.card(0, 6), 199);
    }

    /** 27: "How many FRONTS of ROWS from one on ... NONE." */
    private static void matchesNone() {
        check.due("27: no cards", new CardLoom().matches(0), NONE);
        CardLoom x = Check.loom("aaaaS;aaaaS", "i");
        x.lines(8);
        check.due("27: no rows", x.matches(0), NONE);
        x.weave(3);
        for (int from = -2; from <= 5; from++) {
            check.due("27: from " + from, x.matches(from), from >= 0 && from < 3 ? 2 * (3 - from) : NONE);
        }
    }

    /** 27: "(as long as there are ROWS and LINES)". */
    private static void matchesEnds() {
        CardLoom x = Check.loom("aaaaS;aaaaS", "i");
        x.weave(50);
        for (int lines = 0; lines <= 8; lines++) {
            x.lines(lines);
            check.due("27: lines " + lines, x.matches(0), 2 * lines);
            check.due("27: at the end, lines " + lines, x.matches(49), lines == 0 ? 0 : 2);
            check.due("27: eight from the end, lines " + lines, x.matches(42), 2 * lines);
            check.due("27: seven from the end, lines " + lines, x.matches(43), 2 * Math.min(lines, 7));
        }
        x.paint(7, 1, 1);
        check.due("27: one is not", x.matches(42), 15);
        check.due("27: it is not looked at", x.matches(43), 14);
        x.paint(0, 2, 1);
        check.due("27: of CARDS that are THREADED", x.matches(43), 14);
    }
}
