/** Promises 18 to 21: returns, flat, jam, undoing. */
public final class MindTest {
    private static final Check check = new Check("MindTest");

    public static void main(String[] args) {
        noCards();
        returns();
        flat();
        jam();
        fullIsNoMatter();
        undoing();
        check.end();
    }

    private static void noCards() {
        CardLoom x = new CardLoom();
        check.due("18: no cards", x.returns(), CardLoom.STATE);
        check.due("19: no cards", x.flat(), CardLoom.STATE);
        check.due("20: no cards", x.jam(), CardLoom.STATE);
    }

    private static void mind(String cards, String law, int returns, int flat, int jam) {
        CardLoom x = Check.loom(cards, law);
        check.due("18: " + law, x.returns(), returns);
        check.due("19: " + law, x.flat(), flat);
        check.due("20: " + law, x.jam(), jam);
        check.due("nothing is done", x.told(1) + x.told(3), 0);
    }

    private static void returns() {
        mind("abcdS", "i", 1, 0, -5);
        mind("abcdS", "f", 4, 0, 100);
        mind("abcdS", "b", 4, 0, 100);
        mind("abcdS", "h", 2, 0, 50);
        mind("abcdS;abcdS", "c1(f,h)", 4, 0, 50);
        mind("abcdS;abcdS", "x7(i,f)", 22, 0, -5);
        mind("abcdS;abcdS", "k1(f,b)", 2, 0, -5);
        mind("aaaaS", "k99(f,k99(b,i))", 4, 0, 199);
        mind("aaaaS", "k1(x99(i,f),i)", -5, 0, -5);
        mind("aaaaS;aaaaS;aaaaS", "c1(h,c2(f,i))", 4, 0, 50);
        mind("aaaaS;aaaaS", "c1(s1(x50(i,f)),k99(k50(x50(i,f),x50(i,b)),i))", 200, 0, -5);
        mind("aaaaS", "k99(x40(i,f),i)", -5, 0, -5);
        mind("aaaaS", "x66(i,f)", 199, 0, -5);
        CardLoom x;
        x = Check.loom("abcdS", "x50(i,f)");
        check.due("18: the 151st", x.returns(), 151);
        x = Check.loom("abcdS", "k50(i,h)");
        x.turn(0, 3);
        check.due("18: from now, not from the first", x.returns(), 1);
        x = Check.loom("abcdS", "f");
        for (int i = 0; i < 47; i++) {
            x.turn(0, 3);
        }
        x.unweave(1);
        x.weave(4);
        check.due("18: three are left", x.card(0, 6), 196);
        check.due("18: jams ahead of it", x.returns(), -5);
        check.due("20: the fourth", x.jam(), 4);
        x.unweave(1);
        check.due("18: the last that goes", x.returns(), 4);
        check.due("20: the fifth", x.jam(), 5);
    }

    private static void flat() {
        CardLoom x = Check.loom("abcdS;abcdS", "b");
        x.turn(0, 3);
        check.due("19: one of two", x.flat(), -5);
        x.turn(1, 3);
        check.due("19: both", x.flat(), 2);
        x.weave(1);
        check.due("19: one pick", x.flat(), 1);
        x.weave(1);
        check.due("19: none needed", x.flat(), 0);
        Check.law(x, "f");
        x.weave(1);
        check.due("19: never", x.flat(), -5);
        x = Check.loom("abcdS;abcdS", "s1(x67(i,b))");
        x.turn(0, 1);
        x.turn(0, 1);
        x.turn(0, 1);
        x.turn(1, 3);
        x.turn(1, 1);
        check.due("19: the 196th", x.flat(), 196);
        x.unweave(5);
        Check.law(x, "x66(i,b)");
        x.turn(0, 1);
        x.turn(1, 1);
        x.pack(3, 3);
        check.due("19: 196", x.flat(), 196);
        x = Check.loom("abcdS", "x67(i,b)");
        x.turn(0, 3);
        x.turn(0, 1);
        check.due("19: the 200th", x.flat(), 200);
        x = Check.loom("abcdS", "x68(i,b)");
        x.turn(0, 3);
        x.turn(0, 1);
        check.due("19: the 203rd is too late", x.flat(), -5);
        Check.law(x, "s66(x67(i,b))");
        check.due("19: the 201st is too late", x.flat(), -5);
        Check.law(x, "s67(x67(i,b))");
        check.due("19: the 200th, told otherwise", x.flat(), 200);
        x = Check.loom("abcdS;abcdS", "c1(b,h)");
        x.turn(0, 3);
        for (int i = 0; i < 49; i++) {
            x.turn(1, 3);
        }
        check.due("19: jams ahead of it", x.flat(), -5);
        check.due("20: at once", x.jam(), 1);
    }

    private static void jam() {
        CardLoom x = Check.loom("abcdS;abcdS", "c1(k1(f,b),b)");
        check.due("20: below -99", x.jam(), 100);
        x.weave(10);
        check.due("20: ten less", x.jam(), 90);
        x = Check.loom("abcdS", "k1(f,i)");
        check.due("20: the 199th", x.jam(), 199);
        x.weave(1);
        check.due("20: the 198th", x.jam(), 198);
        x = Check.loom("abcdS", "s1(k1(f,i))");
        check.due("20: the 200th", x.jam(), 200);
        x = Check.loom("abcdS", "s2(x3(f,b))");
        check.due("20: none", x.jam(), -5);
    }

    private static void fullIsNoMatter() {
        CardLoom x = Check.loom("abcdS", "k25(f,b)");
        x.weave(50);
        check.due("18: with 50 rows", x.returns(), 4);
        check.due("19: with 50 rows", x.flat(), 0);
        check.due("20: with 50 rows", x.jam(), -5);
        Check.law(x, "f");
        check.due("20: f with 50 rows", x.jam(), 100);
        check.due("18: f with 50 rows", x.returns(), 4);
    }

    private static void undoing() {
        CardLoom x = Check.loom("abcdS;abcdS;abcdS;abcdS", "i");
        check.due("21: nothing twisted", x.undoing(-1, 0), 0);
        check.due("21: no first", x.undoing(0, 0), CardLoom.NONE);
        x.pack(1, 3);
        x.pack(3, 1);
        x.pack(4, 2);
        x.pack(4, 2);
        x.pack(8, 2);
        check.due("21: 3 back and 2 forward", x.undoing(-1, 0), 5);
        check.due("21: by what 1, too", x.undoing(-1, 1), 5);
        int[] sets = {3, 1, 1, 12, 4};
        int[] turnings = {2, 2, 2, 1, 1};
        for (int i = 0; i < 5; i++) {
            check.due("21: set " + i, x.undoing(i, 0), sets[i]);
            check.due("21: turning " + i, x.undoing(i, 1), turnings[i]);
        }
        check.due("21: no sixth", x.undoing(5, 0), CardLoom.NONE);
        check.due("21: i -2", x.undoing(-2, 0), CardLoom.NONE);
        check.due("21: what 2", x.undoing(0, 2), CardLoom.NONE);
        check.due("21: what -1", x.undoing(0, -1), CardLoom.NONE);
        check.due("21: what 2 by i -1", x.undoing(-1, 2), CardLoom.NONE);
        check.due("21: what -1 by i -1", x.undoing(-1, -1), CardLoom.NONE);
        check.due("21: greatest i", x.undoing(Integer.MAX_VALUE, 0), CardLoom.NONE);
        check.due("21: nothing is done", x.told(1), 5);
        for (int i = 0; i < 5; i++) {
            x.pack(sets[i], turnings[i]);
        }
        check.due("21: all twists are undone", x.told(3), 0);
        check.due("21: none then", x.undoing(-1, 0), 0);
    }
}
