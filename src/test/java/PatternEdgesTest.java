/** Promises 28 to 34: each sentence that names an edge of what the ROWS show, and a test of it. */
public final class PatternEdgesTest {
    private static final Check check = new Check("PatternEdgesTest");
    private static final int NONE = CardLoom.NONE, BAD = CardLoom.BAD, NEVER = -5;
    private static final String TEN = "abcdS;abcdS;abcdS;abcdS;abcdS;abcdS;abcdS;abcdS;abcdS;abcdS";

    public static void main(String[] args) {
        periodOfFew();
        periodLeast();
        periodGreatest();
        periodOfAllCards();
        mirrorsOfFew();
        mirrorsOddAndEven();
        runEdges();
        runOfColours();
        coloursEdges();
        rankedEdges();
        rankedByFronts();
        rankedByBacks();
        rankedByThemselves();
        alikeEdges();
        facesEdges();
        nothingWoven();
        check.end();
    }

    /** ROWS whose FRONTS of one CARD are as told, by colouring its hole ahead of each. */
    private static CardLoom woven(String fronts) {
        CardLoom x = Check.loom("aaaaS", "i");
        for (char front : fronts.toCharArray()) {
            x.recolour(0, 0, front - 'a');
            x.turn(0, 0);
        }
        return x;
    }

    /** 28: "the least p (1 .. how many ROWS less 1) ...; -5". */
    private static void periodOfFew() {
        check.due("28: no cards", new CardLoom().period(), NEVER);
        check.due("28: no rows", Check.loom("abcdS", "i").period(), NEVER);
        check.due("28: one row", woven("a").period(), NEVER);
        check.due("28: two alike", woven("aa").period(), 1);
        check.due("28: two that differ", woven("ab").period(), NEVER);
        check.due("28: three, p 2", woven("aba").period(), 2);
        check.due("28: three, p 3 is none", woven("abb").period(), NEVER);
    }

    /** 28: "FRONTS of each ROW are as those of the ROW p behind it": each that has one. */
    private static void periodLeast() {
        String[] rows = {"aaaa", "abab", "ababa", "abcab", "aabaa", "aabaab", "aaab", "abbbb", "aabbaab", "abcabcab",
            "abaaba", "abaabab"};
        int[] due = {1, 2, 2, 3, 3, 3, NEVER, NEVER, 4, 3, 3, 5};
        for (int i = 0; i < rows.length; i++) {
            check.due("28: " + rows[i], woven(rows[i]).period(), due[i]);
        }
    }

    /** 28: with 50 ROWS it is 1 to 49. */
    private static void periodGreatest() {
        String rows = "abbbbbbbbbbbbbbbbbbbbbbbbbbbbbbbbbbbbbbbbbbbbbbbba";
        check.due("28: fifty", rows.length(), 50);
        check.due("28: 49", woven(rows).period(), 49);
        check.due("28: 48", woven(rows.substring(0, 48) + "ab").period(), 48);
        check.due("28: 1", woven("a".repeat(50)).period(), 1);
        check.due("28: none", woven("a".repeat(49) + "b").period(), NEVER);
        check.due("28: none", woven("b" + "a".repeat(49)).period(), NEVER);
        check.due("28: 25", woven(("a".repeat(24) + "b").repeat(2)).period(), 25);
    }

    /** 28: FRONTS of all CARDS; BACKS are no matter. */
    private static void periodOfAllCards() {
        CardLoom x = Check.loom(TEN, "c9(i,f)");
        x.weave(9);
        check.due("28: by the tenth", x.period(), 4);
        x = Check.loom("ababS;abaaS", "c1(f,i)");
        x.weave(9);
        check.due("28: by the first", x.period(), 2);
        x = Check.loom("abadS", "f");
        x.weave(9);
        check.due("28: four", x.period(), 4);
        x = Check.loom("aabcS", "k1(f,b)");
        x.weave(6);
        check.due("28: backs are no matter", x.period(), 1);
    }

    /** 29: "how many ROWS have FRONTS that are alike from both ends": one CARD is, from both ends. */
    private static void mirrorsOfFew() {
        check.due("29: no cards", new CardLoom().mirrors(), 0);
        check.due("29: no rows", Check.loom("abcdS", "i").mirrors(), 0);
        check.due("29: one card", woven("abcdefghij").mirrors(), 10);
        check.due("29: fifty", woven("a".repeat(50)).mirrors(), 50);
    }

    /** 29: with as many CARDS as can be, odd and even: each pair counts, the middle does not. */
    private static void mirrorsOddAndEven() {
        for (int cards = 1; cards <= 10; cards++) {
            CardLoom x = Check.loom(TEN.substring(0, 6 * cards - 1), "i");
            x.weave(1);
            for (int c = 0; c < cards; c++) {
                x.recolour(c, 0, 4);
                x.weave(1);
                x.recolour(c, 0, 0);
            }
            check.due("29: of " + cards, x.mirrors(), 1 + cards % 2);
        }
        CardLoom x = Check.loom("abcdS;abcdS;abcdS", "c1(i,c2(f,i))");
        x.weave(4);
        check.due("29: the middle is no matter", x.mirrors(), 4);
        x = Check.loom("abccS;adcaS", "f");
        x.weave(4);
        check.due("29: two of four", x.mirrors(), 2);
    }

    /** 30: "RUN. BAD.": a COLOUR is 0 .. 9. */
    private static void runEdges() {
        CardLoom x = woven("jjj");
        for (int colour = -3; colour <= 12; colour++) {
            int due = colour < 0 || colour > 9 ? BAD : colour == 9 ? 3 : 0;
            check.due("30: colour " + colour, x.run(colour), due);
            check.due("30: no cards, colour " + colour, new CardLoom().run(colour), due == BAD ? BAD : 0);
        }
    }

    /** 30: "the most ROWS one behind the other in which a CARD shows it on the FRONT, of all CARDS". */
    private static void runOfColours() {
        check.due("30: at the beginning", woven("aaab").run(0), 3);
        check.due("30: at the end", woven("baaa").run(0), 3);
        check.due("30: between", woven("abaabaaabaa").run(0), 3);
        check.due("30: once", woven("bbab").run(0), 1);
        check.due("30: all 50", woven("a".repeat(50)).run(0), 50);
        check.due("30: 25 twice", woven("a".repeat(24) + "b" + "a".repeat(25)).run(0), 25);
        CardLoom x = Check.loom("abbbS;bbbaS", "f");
        x.weave(4);
        check.due("30: of one card, not of two", x.run(0), 1);
        check.due("30: of b", x.run(1), 3);
        x = Check.loom(TEN, "c9(f,i)");
        x.weave(7);
        check.due("30: of the tenth", x.run(0), 7);
        check.due("30: of the nine", x.run(1), 1);
        x = Check.loom("aabbS;bbaaS", "i");
        x.weave(3);
        x.pack(3, 3);
        check.due("30: from one card to the other", x.run(0), 3);
    }

    /** 31: "on what 0 FRONTS, 1 BACKS of all ROWS, 2 in HOLES. BAD; NONE." */
    private static void coloursEdges() {
        CardLoom x = Check.loom("abbjS;abbjS", "i");
        x.weave(3);
        int[][] due = {{6, 0, 2}, {0, 6, 4}, {0, 0, 0}, {0, 0, 2}};
        int[] colours = {0, 1, 5, 9};
        for (int i = 0; i < colours.length; i++) {
            for (int what = -1; what <= 3; what++) {
                int is = what < 0 || what > 2 ? NONE : due[i][what];
                check.due("31: colours(" + colours[i] + ", " + what + ")", x.colours(colours[i], what), is);
            }
        }
        for (int what = -1; what <= 3; what++) {
            check.due("31: BAD ahead of NONE, -1", x.colours(-1, what), BAD);
            check.due("31: BAD ahead of NONE, 10", x.colours(10, what), BAD);
            check.due("31: no cards", new CardLoom().colours(0, what), what < 0 || what > 2 ? NONE : 0);
        }
        x = Check.loom(TEN.replace('a', 'j'), "i");
        x.weave(50);
        check.due("31: all fronts", x.colours(9, 0), 500);
        check.due("31: all backs", x.colours(2, 1), 500);
        check.due("31: holes", x.colours(9, 2), 10);
        x.recolour(9, 3, 9);
        check.due("31: the last hole", x.colours(9, 2), 11);
        check.due("31: fronts are as they were woven", x.colours(9, 0), 500);
        x.unweave(50);
        check.due("31: no fronts", x.colours(9, 0), 0);
        check.due("31: no backs", x.colours(2, 1), 0);
    }

    private static void ranks(String what, CardLoom x, String due) {
        StringBuilder ranking = new StringBuilder();
        for (int i = 0; i < 10; i++) {
            ranking.append(x.ranked(i));
        }
        check.same("32: " + what, ranking.toString(), due);
    }

    /** 32: "The i-th COLOUR of the RANKING. NONE." */
    private static void rankedEdges() {
        CardLoom x = woven("j");
        for (int i = -2; i <= 11; i++) {
            check.due("32: no cards, " + i, new CardLoom().ranked(i), i < 0 || i > 9 ? NONE : i);
        }
        check.due("32: the first", x.ranked(0), 9);
        check.due("32: -1", x.ranked(-1), NONE);
        check.due("32: 10", x.ranked(10), NONE);
    }

    /** 32: "by how often they are on FRONTS of all ROWS, the most ahead". */
    private static void rankedByFronts() {
        ranks("j most", woven("jjjiia"), "9801234567");
        ranks("by one", woven("bbbcccc"), "2134567890");
        ranks("fifty", woven("j".repeat(26) + "i".repeat(24)), "9812345670");
    }

    /** 32: "then by how often on BACKS, the fewer ahead". */
    private static void rankedByBacks() {
        CardLoom x = Check.loom("abccS;badaS;cdacS", "i");
        x.weave(2);
        ranks("two fronts each", x, order("bac", "efghij", "d"));
        x = Check.loom("aajaS;aaiaS;aaiaS", "i");
        x.weave(1);
        ranks("none on fronts", x, order("a", "bcdefgh", "ji"));
    }

    /** 32: "then by themselves". */
    private static void rankedByThemselves() {
        ranks("nothing woven", Check.loom("jjjjS", "i"), "0123456789");
        CardLoom x = Check.loom("jjjjS;iiiiS;hhhhS", "i");
        x.weave(5);
        ranks("alike in both", x, order("hij", "abcdefg"));
    }

    private static String order(String... parts) {
        StringBuilder text = new StringBuilder();
        for (String part : parts) {
            for (char letter : part.toCharArray()) {
                text.append((char) (letter - 'a' + '0'));
            }
        }
        return text.toString();
    }

    /** 33: "How many CARDS have the same FRONT in two ROWS. NONE: either." */
    private static void alikeEdges() {
        CardLoom x = Check.loom("abcdS;aaaaS;ababS", "f");
        x.weave(5);
        for (int row = -1; row <= 5; row++) {
            for (int other = -1; other <= 5; other++) {
                boolean is = row >= 0 && row < 5 && other >= 0 && other < 5;
                int apart = Math.abs(row - other);
                int due = !is ? NONE : apart % 4 == 0 ? 3 : apart % 2 == 0 ? 2 : 1;
                check.due("33: " + row + " and " + other, x.alike(row, other), due);
            }
        }
        check.due("33: no cards", new CardLoom().alike(0, 0), NONE);
        x = Check.loom(TEN, "c9(i,f)");
        x.weave(50);
        check.due("33: all ten", x.alike(0, 48), 10);
        check.due("33: all but the tenth", x.alike(0, 49), 9);
        check.due("33: row 50", x.alike(50, 0), NONE);
    }

    /** 34: "How many CARDS have the same COLOUR on FRONT and BACK of a ROW. NONE." */
    private static void facesEdges() {
        CardLoom x = Check.loom("abcdS;aaaaS;abadS", "f");
        x.weave(4);
        int[] due = {NONE, 1, 2, 1, 2, NONE};
        for (int row = -1; row <= 4; row++) {
            check.due("34: row " + row, x.faces(row), due[row + 1]);
        }
        check.due("34: no cards", new CardLoom().faces(0), NONE);
        x = Check.loom(TEN.replace('c', 'a'), "i");
        x.weave(50);
        check.due("34: all ten", x.faces(49), 10);
        x.unweave(1);
        check.due("34: taken back", x.faces(49), NONE);
        x = Check.loom(TEN, "i");
        x.weave(1);
        check.due("34: none", x.faces(0), 0);
    }

    /** 28 to 34: with all ROWS taken back nothing is shown. */
    private static void nothingWoven() {
        CardLoom x = Check.loom("aaaaS", "f");
        x.weave(9);
        x.unweave(9);
        check.due("28: period", x.period(), NEVER);
        check.due("29: mirrors", x.mirrors(), 0);
        check.due("30: run", x.run(0), 0);
        check.due("31: fronts", x.colours(0, 0), 0);
        check.due("31: backs", x.colours(0, 1), 0);
        check.due("31: holes", x.colours(0, 2), 4);
        check.due("32: ranked", x.ranked(0), 0);
        check.due("33: alike", x.alike(0, 0), NONE);
        check.due("34: faces", x.faces(0), NONE);
        check.due("37: float", x.told(5), 0);
    }
}
