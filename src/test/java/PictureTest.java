/** Promises 22 to 27: paint, lines, draft, fewest, weaveDraft, matches. */
public final class PictureTest {
    private static final Check check = new Check("PictureTest");

    public static void main(String[] args) {
        lines();
        paint();
        draft();
        draftOrder();
        fewest();
        lost();
        weaveDraft();
        weaveDraftRefused();
        weaveDraftAtTheEnd();
        matches();
        check.end();
    }

    /** The PICTURE becomes LINES told as texts, a letter for each CARD from 0 on. */
    private static void picture(CardLoom x, String... lines) {
        x.lines(0);
        x.lines(lines.length);
        for (int line = 0; line < lines.length; line++) {
            for (int c = 0; c < lines[line].length(); c++) {
                x.paint(line, c, lines[line].charAt(c) - 'a');
            }
        }
    }

    private static String drafted(CardLoom x, int card) {
        StringBuilder text = new StringBuilder();
        for (int line = 0; line < x.told(4); line++) {
            text.append(x.draft(line, card)).append(' ');
        }
        return text.toString().trim();
    }

    private static void lines() {
        CardLoom x = new CardLoom();
        check.due("23: none at first", x.lines(3), 0);
        check.due("23: three", x.lines(8), 3);
        check.due("23: nine", x.lines(9), CardLoom.BAD);
        check.due("23: -1", x.lines(-1), CardLoom.BAD);
        check.due("23: eight still", x.told(4), 8);
        x.paint(2, 9, 7);
        x.paint(7, 0, 5);
        check.due("23: eight", x.lines(3), 8);
        check.due("23: three again", x.lines(8), 3);
        check.due("23: what stayed", x.paint(2, 9, 0), 7);
        check.due("23: what is new", x.paint(7, 0, 0), 0);
        check.due("23: none again", x.lines(0), 8);
    }

    private static void paint() {
        CardLoom x = new CardLoom();
        check.due("22: no lines", x.paint(0, 0, 0), CardLoom.NONE);
        x.lines(2);
        check.due("22: was a", x.paint(1, 9, 9), 0);
        check.due("22: was j", x.paint(1, 9, 3), 9);
        check.due("22: line 2", x.paint(2, 0, 99), CardLoom.NONE);
        check.due("22: line -1", x.paint(-1, 0, 0), CardLoom.NONE);
        check.due("22: card 10", x.paint(0, 10, 99), CardLoom.NONE);
        check.due("22: card -1", x.paint(0, -1, 0), CardLoom.NONE);
        check.due("22: colour 10", x.paint(1, 9, 10), CardLoom.BAD);
        check.due("22: colour -1", x.paint(1, 9, -1), CardLoom.BAD);
        check.due("22: nothing is changed", x.paint(1, 9, 0), 3);
        check.due("22: the next place", x.paint(1, 8, 0), 0);
        check.due("22: the line ahead", x.paint(0, 9, 0), 0);
    }

    private static void draft() {
        CardLoom x = Check.loom("abcdS;dcbaZ;aabbS", "i");
        picture(x, "bda", "cda", "bab", "aab");
        check.same("24: card 0", drafted(x, 0), "1 1 2 2");
        check.same("24: card 1", drafted(x, 1), "0 0 2 0");
        check.same("24: card 2", drafted(x, 2), "0 0 2 0");
        check.due("24: line 4", x.draft(4, 0), CardLoom.NONE);
        check.due("24: line -1", x.draft(-1, 0), CardLoom.NONE);
        check.due("24: card 3", x.draft(0, 3), CardLoom.NONE);
        check.due("24: card -1", x.draft(0, -1), CardLoom.NONE);
        x.pack(7, 1);
        check.same("24: from now, card 0", drafted(x, 0), "0 1 2 2");
        x.place(2, 0);
        check.same("24: by the place", drafted(x, 2), "0 0 2 0");
        x.lines(0);
        check.due("24: no lines", x.draft(0, 0), CardLoom.NONE);
        CardLoom none = new CardLoom();
        none.lines(1);
        check.due("24: no cards", none.draft(0, 0), CardLoom.NONE);
    }

    private static void draftOrder() {
        CardLoom x = Check.loom("ababS;abbaS;aaaaS;aabaS", "i");
        picture(x, "bbaa", "aaaa");
        check.same("24: forward ahead of back", drafted(x, 0), "1 1");
        check.same("24: fewest ahead of the order", drafted(x, 1), "1 2");
        check.same("24: idle is the fewest", drafted(x, 2), "0 0");
        x = Check.loom("abbbS;abbaS;aabbS", "i");
        picture(x, "aba", "bbb");
        check.same("24: the later turn", drafted(x, 0), "0 1");
        check.same("24: idle then", drafted(x, 1), "1 0");
        check.same("24: back is alone", drafted(x, 2), "0 2");
        x = Check.loom("aabbS;aaabS", "i");
        picture(x, "aa", "ba");
        x.place(0, 1);
        check.same("24: forward out of the last a", drafted(x, 0), "0 1");
        x = Check.loom("aabcS", "i");
        picture(x, "a", "b");
        check.same("24: forward first though idle would do later", drafted(x, 0), "1 1");
        x = Check.loom("aaabS", "i");
        x.place(0, 1);
        picture(x, "a", "a", "b");
        check.same("24: forward ahead of back in the first pick", drafted(x, 0), "1 0 1");
        x = Check.loom("aacbS", "i");
        x.place(0, 1);
        picture(x, "a", "a", "b");
        check.same("24: back ahead of idle in the first pick", drafted(x, 0), "2 0 2");
    }

    private static void fewest() {
        CardLoom x = Check.loom("abcdS;dcbaZ;aabbS", "i");
        check.due("25: no lines", x.fewest(0), 0);
        check.due("25: no lines, all", x.fewest(-1), 0);
        picture(x, "bda", "cda", "bab", "aab");
        check.due("25: card 0", x.fewest(0), 4);
        check.due("25: card 1", x.fewest(1), 1);
        check.due("25: card 2", x.fewest(2), 1);
        check.due("25: all", x.fewest(-1), 6);
        check.due("25: card 3", x.fewest(3), CardLoom.NONE);
        check.due("25: card -2", x.fewest(-2), CardLoom.NONE);
        check.due("25: least", x.fewest(Integer.MIN_VALUE), CardLoom.NONE);
        check.due("25: no cards", new CardLoom().fewest(-1), 0);
        check.due("25: no cards, card 0", new CardLoom().fewest(0), CardLoom.NONE);
        x = Check.loom("abcdS", "i");
        picture(x, "b", "c", "d", "a", "b", "c", "d", "a");
        check.due("25: eight", x.fewest(0), 8);
    }

    private static void lost() {
        CardLoom x = Check.loom("abcdS;aabbS", "i");
        picture(x, "ca", "ca");
        check.due("24: lost", x.draft(0, 0), -5);
        check.due("24: lost in each line", x.draft(1, 0), -5);
        check.due("24: the other is not", x.draft(0, 1), 0);
        check.due("25: lost", x.fewest(0), -5);
        check.due("25: the other", x.fewest(1), 0);
        check.due("25: one is lost", x.fewest(-1), -5);
        check.due("26: one is lost", x.weaveDraft(), CardLoom.STATE);
        picture(x, "ba", "da");
        check.due("25: no half turns", x.fewest(0), -5);
        picture(x, "aa", "ja");
        check.due("25: no such colour", x.fewest(0), -5);
        check.due("26: nothing is done", x.told(1), 0);
    }

    private static void weaveDraft() {
        CardLoom x = Check.loom("abcdS;dcbaZ", "h");
        x.pack(3, 1);
        picture(x, "bc", "cd", "cd");
        check.due("26: four rows", x.weaveDraft(), 4);
        check.due("26: picks", x.told(2), 4);
        check.same("26: card 0", Check.turnings(x, 0), "1010");
        check.same("26: card 1", Check.turnings(x, 1), "1020");
        check.due("27: as painted", x.matches(1), 6);
        check.due("26: the place", x.card(0, 5), 2);
        check.due("26: taken back", x.unweave(3), 3);
        check.due("26: as ahead of it", x.card(0, 5), 1);
        check.due("26: again", x.weaveDraft(), 4);
        x = Check.loom("aaaaS", "i");
        x.weave(42);
        x.lines(8);
        check.due("26: just room", x.weaveDraft(), 50);
    }

    private static void weaveDraftRefused() {
        CardLoom x = new CardLoom();
        x.lines(1);
        check.due("26: no cards", x.weaveDraft(), CardLoom.STATE);
        x = Check.loom("aaaaS", "i");
        check.due("26: no lines", x.weaveDraft(), CardLoom.STATE);
        x.weave(43);
        x.lines(8);
        check.due("26: no room", x.weaveDraft(), CardLoom.FULL);
        check.due("26: nothing is done", x.told(1), 43);
        x.paint(7, 0, 1);
        check.due("26: STATE ahead of FULL", x.weaveDraft(), CardLoom.STATE);
        x.weave(50);
        x.lines(0);
        check.due("26: no lines, no room", x.weaveDraft(), CardLoom.STATE);
    }

    /** Twists grow by 2 a row at most, and a draft's by 1: with 50 rows in all it reaches 99 and never jams. */
    private static void weaveDraftAtTheEnd() {
        CardLoom x = Check.loom("abcdS;aaaaS", "c1(h,i)");
        x.weave(49);
        check.due("26: 98", x.card(0, 6), 198);
        x.place(0, 0);
        picture(x, "ba");
        check.due("26: the last that goes", x.weaveDraft(), 50);
        check.due("26: 99", x.card(0, 6), 199);
    }

    private static void matches() {
        CardLoom x = Check.loom("abcdS;aaaaS;abcdZ", "f");
        check.due("27: no rows", x.matches(0), CardLoom.NONE);
        x.weave(4);
        check.due("27: no lines", x.matches(0), 0);
        picture(x, "bab", "bac", "djd");
        check.due("27: seven", x.matches(0), 7);
        check.due("27: from 1", x.matches(1), 2);
        check.due("27: from 3", x.matches(3), 1);
        check.due("27: from 4", x.matches(4), CardLoom.NONE);
        check.due("27: from -1", x.matches(-1), CardLoom.NONE);
        check.due("27: greatest", x.matches(Integer.MAX_VALUE), CardLoom.NONE);
        picture(x, "bab", "cac", "dad", "aaa", "bab");
        check.due("27: all", x.matches(0), 12);
        x.paint(0, 3, 5);
        check.due("27: beyond the cards", x.matches(0), 12);
    }
}
