/** Promises 28 to 34: period, mirrors, run, colours, ranked, alike, faces. */
public final class PatternsTest {
    private static final Check check = new Check("PatternsTest");

    public static void main(String[] args) {
        period();
        mirrors();
        run();
        colours();
        ranked();
        alike();
        faces();
        check.end();
    }

    private static int periodOf(String cards, String law, int rows) {
        CardLoom x = Check.loom(cards, law);
        x.weave(rows);
        return x.period();
    }

    private static void period() {
        check.due("28: no rows", new CardLoom().period(), -5);
        check.due("28: one row", periodOf("abcdS", "f", 1), -5);
        check.due("28: two that differ", periodOf("abcdS", "f", 2), -5);
        check.due("28: two alike", periodOf("abcdS", "i", 2), 1);
        check.due("28: four", periodOf("abcdS", "f", 12), 4);
        check.due("28: four by five", periodOf("abcdS", "f", 5), 4);
        check.due("28: not yet", periodOf("abcdS", "f", 4), -5);
        check.due("28: two", periodOf("ababS", "f", 7), 2);
        check.due("28: of both", periodOf("ababS;abcdS", "f", 9), 4);
        check.due("28: 49", periodOf("abaaS", "t(x49(i,k49(f,b)),s48(x49(i,f)))", 50), 49);
        check.due("28: 50 rows alike", periodOf("aaaaS", "f", 50), 1);
        CardLoom x = Check.loom("abcdS", "i");
        x.weave(49);
        x.turn(0, 2);
        check.due("28: the last is another", x.period(), -5);
        x = Check.loom("abbbS", "f");
        x.weave(3);
        x.recolour(0, 0, 1);
        check.due("28: as they were woven", x.period(), 1);
        x.recolour(0, 1, 0);
        x.weave(2);
        check.due("28: b b b b a", x.period(), -5);
        x.turn(0, 0);
        x.recolour(0, 1, 1);
        x = Check.loom("abaaS", "i");
        x.turn(0, 1);
        x.turn(0, 1);
        x.turn(0, 2);
        check.due("28: b a b", x.period(), 2);
        x.turn(0, 0);
        check.due("28: b a b b", x.period(), 3);
    }

    private static void mirrors() {
        CardLoom x = new CardLoom();
        check.due("29: no rows", x.mirrors(), 0);
        Check.thread(x, "abcdS;aabbS;aacdS");
        check.due("29: no rows yet", x.mirrors(), 0);
        Check.law(x, "f");
        x.weave(8);
        check.due("29: three of four, twice", x.mirrors(), 6);
        x = Check.loom("abcdS", "f");
        x.weave(5);
        check.due("29: one card", x.mirrors(), 5);
        x = Check.loom("aaaaS;bbbbS;bbbbS;aaaaS", "f");
        x.weave(3);
        check.due("29: four cards", x.mirrors(), 3);
        x.recolour(1, 0, 9);
        x.weave(1);
        check.due("29: not the middle", x.mirrors(), 3);
        x = Check.loom("aaaaS;bbbbS", "f");
        x.weave(4);
        check.due("29: none", x.mirrors(), 0);
    }

    private static void run() {
        CardLoom x = new CardLoom();
        check.due("30: nothing", x.run(0), 0);
        check.due("30: colour 10", x.run(10), CardLoom.BAD);
        check.due("30: colour -1", x.run(-1), CardLoom.BAD);
        Check.thread(x, "aabbS;abbbS");
        Check.law(x, "f");
        x.weave(7);
        check.due("30: a", x.run(0), 2);
        check.due("30: b", x.run(1), 3);
        check.due("30: c", x.run(2), 0);
        check.due("30: j", x.run(9), 0);
        Check.law(x, "i");
        x.weave(4);
        check.due("30: b at the end", x.run(1), 7);
        x = Check.loom("aaaaS;bbbbS", "k1(c1(f,i),c1(b,f))");
        x.weave(50);
        check.due("30: all rows", x.run(0), 50);
    }

    private static void colours() {
        CardLoom x = Check.loom("abccS;aacdZ", "f");
        check.due("31: no fronts", x.colours(0, 0), 0);
        x.weave(5);
        int[][] due = {{4, 3, 3}, {2, 1, 1}, {3, 4, 3}, {1, 2, 1}};
        for (int colour = 0; colour < 4; colour++) {
            for (int what = 0; what < 3; what++) {
                check.due("31: colours(" + colour + ", " + what + ")", x.colours(colour, what), due[colour][what]);
            }
        }
        check.due("31: j", x.colours(9, 2), 0);
        x.recolour(0, 0, 9);
        check.due("31: j in a hole", x.colours(9, 2), 1);
        check.due("31: j on no row", x.colours(9, 0), 0);
        check.due("31: colour 10", x.colours(10, 0), CardLoom.BAD);
        check.due("31: colour -1", x.colours(-1, 0), CardLoom.BAD);
        check.due("31: BAD ahead of NONE", x.colours(10, 3), CardLoom.BAD);
        check.due("31: what 3", x.colours(0, 3), CardLoom.NONE);
        check.due("31: what -1", x.colours(0, -1), CardLoom.NONE);
    }

    private static void ranking(CardLoom x, String want) {
        StringBuilder got = new StringBuilder();
        for (int i = 0; i < 10; i++) {
            got.append(x.ranked(i));
        }
        check.same("32: ranked", got.toString(), want);
        check.due("32: 10", x.ranked(10), CardLoom.NONE);
        check.due("32: -1", x.ranked(-1), CardLoom.NONE);
    }

    private static void ranked() {
        ranking(new CardLoom(), "0123456789");
        CardLoom x = Check.loom("jjjjS;bbbbS;bbbbS", "i");
        x.weave(1);
        ranking(x, "1902345678");
        x = Check.loom("dcddS;eeeeS;fgffS", "i");
        x.weave(2);
        ranking(x, "3450126789");
        x = Check.loom("aaaaS;bbcbS", "i");
        x.weave(2);
        ranking(x, "1034567892");
        x = Check.loom("abcdS;ijccS", "i");
        x.weave(3);
        ranking(x, "0813456792");
        x.turn(1, 3);
        ranking(x, "0821345679");
    }

    private static void alike() {
        CardLoom x = Check.loom("abcdS;aabbS;aaaaS", "f");
        x.weave(6);
        check.due("33: 0 and 1", x.alike(0, 1), 1);
        check.due("33: 0 and 3", x.alike(0, 3), 2);
        check.due("33: 0 and 4", x.alike(0, 4), 3);
        check.due("33: itself", x.alike(2, 2), 3);
        check.due("33: either way", x.alike(3, 0), 2);
        check.due("33: row 6", x.alike(6, 0), CardLoom.NONE);
        check.due("33: other 6", x.alike(0, 6), CardLoom.NONE);
        check.due("33: row -1", x.alike(-1, 0), CardLoom.NONE);
        check.due("33: other -1", x.alike(0, -1), CardLoom.NONE);
    }

    private static void faces() {
        CardLoom x = Check.loom("abadS;abcbS;aaaaS", "f");
        x.weave(2);
        check.due("34: row 0", x.faces(0), 2);
        check.due("34: row 1", x.faces(1), 2);
        x.recolour(2, 3, 1);
        x.weave(1);
        check.due("34: row 2", x.faces(2), 1);
        check.due("34: as it was woven", x.faces(1), 2);
        check.due("34: row 3", x.faces(3), CardLoom.NONE);
        check.due("34: row -1", x.faces(-1), CardLoom.NONE);
    }
}
