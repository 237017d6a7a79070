/** Promise 5: law, and what each kind of LAW gives (Terms 2). */
public final class LawTest {
    private static final Check check = new Check("LawTest");
    private static final String FOUR = "abcdS;abcdZ;aabbS;abcdS";

    public static void main(String[] args) {
        leaves();
        parts();
        cardsBelow();
        divided();
        laterAndByCard();
        reversedAndMirrored();
        eitherOr();
        numberOfPick();
        faults();
        depth();
        check.end();
    }

    /** What the law gives at PICK n, after n idle picks. */
    private static String at(String law, int n) {
        CardLoom x = Check.loom(FOUR, law);
        for (int i = 0; i < n; i++) {
            x.pack(0, 0);
        }
        return Check.next(x);
    }

    private static void gives(String law, String... picks) {
        for (int n = 0; n < picks.length; n++) {
            check.same("5: " + law + " at " + n, at(law, n), picks[n]);
        }
    }

    private static void leaves() {
        gives("i", "0000", "0000");
        gives("f", "1111", "1111");
        gives("b", "2222", "2222");
        gives("h", "3333", "3333");
        CardLoom x = Check.loom(FOUR, "f");
        check.due("5: one letter", Check.law(x, "h"), 1);
        check.due("5: two letters", Check.law(x, "k2(i,b)"), 2);
        check.due("5: four letters", Check.law(x, "t(k2(i,b),c3(h,r(i)))"), 4);
        check.due("5: the tape is empty", x.told(6), 0);
        check.due("5: without cards", Check.law(new CardLoom(), "m(d(f))"), 1);
    }

    private static void parts() {
        gives("k1(f,b)", "1111", "2222", "1111", "2222");
        gives("k2(f,b)", "1111", "1111", "2222", "2222", "1111", "1111", "2222");
        gives("k3(f,k1(b,h))", "1111", "1111", "1111", "3333", "2222", "3333", "1111");
        check.same("5: k49", at("k49(f,b)", 48), "1111");
        check.same("5: k49 then", at("k49(f,b)", 49), "2222");
        check.same("5: k99", at("k99(f,b)", 50), "1111");
        check.same("5: k99 at 98", at("s98(k99(f,b))", 0), "1111");
        check.same("5: k99 at 99", at("s98(k99(f,b))", 1), "2222");
        check.same("5: k99 at 197", at("s99(s98(k99(f,b)))", 0), "2222");
        check.same("5: k99 at 198", at("s99(s99(k99(f,b)))", 0), "1111");
    }

    private static void cardsBelow() {
        gives("c0(f,b)", "2222");
        gives("c1(f,b)", "1222");
        gives("c3(f,b)", "1112");
        gives("c4(f,b)", "1111");
        gives("c99(f,b)", "1111");
        gives("c03(f,b)", "1112");
        gives("c2(k1(f,i),k1(i,b))", "1100", "0022", "1100");
    }

    private static void divided() {
        gives("x1(f,b)", "2222", "2222");
        gives("x2(f,b)", "2222", "1111", "2222", "1111");
        gives("x3(f,b)", "2222", "1111", "1111", "2222");
        check.same("5: x99 at 99", at("s98(x99(f,b))", 1), "2222");
        check.same("5: x99 at 98", at("s98(x99(f,b))", 0), "1111");
    }

    private static void laterAndByCard() {
        gives("s0(k2(f,b))", "1111", "1111", "2222");
        gives("s1(k2(f,b))", "1111", "2222", "2222", "1111");
        gives("s3(x4(f,b))", "1111", "2222", "1111");
        gives("s2(s1(x4(f,b)))", "1111", "2222", "1111");
        gives("d(k2(f,b))", "1122", "1221", "2211", "2112");
        gives("d(d(k2(f,b)))", "1212", "1212", "2121");
        gives("d(x4(i,f))", "1000", "0001", "0010", "0100");
    }

    private static void reversedAndMirrored() {
        gives("r(f)", "2222");
        gives("r(b)", "1111");
        gives("r(h)", "3333");
        gives("r(i)", "0000");
        gives("r(c1(f,c2(b,c3(i,h))))", "2103");
        gives("r(r(c1(f,b)))", "1222");
        gives("m(c1(f,b))", "2221");
        gives("m(c3(f,b))", "2111");
        gives("m(m(c3(f,b)))", "1112");
        gives("m(d(k2(f,b)))", "2211", "1221");
        gives("d(m(k2(f,b)))", "1122", "1221");
        gives("c1(m(c1(f,b)),h)", "2333");
        CardLoom x = Check.loom("abcdS;abcdS", "m(c1(f,b))");
        check.same("5: m by two cards", Check.next(x), "21");
        Check.thread(x, "abcdS;abcdS;abcdS");
        check.same("5: m by three cards", Check.next(x), "221");
    }

    private static void eitherOr() {
        gives("t(f,b)", "1111");
        gives("t(i,b)", "2222");
        gives("t(b,f)", "2222");
        gives("t(h,f)", "3333");
        gives("t(i,i)", "0000");
        gives("t(c1(i,c2(f,c3(b,h))),k1(b,f))", "2123", "1123");
    }

    private static void numberOfPick() {
        CardLoom x = Check.loom(FOUR, "k1(f,b)");
        x.turn(0, 3);
        check.same("5: a turn is a pick", Check.next(x), "2222");
        x.weave(1);
        check.same("5: a weave is a pick", Check.next(x), "1111");
        x.unweave(1);
        check.same("5: taken back", Check.next(x), "2222");
        Check.thread(x, FOUR);
        check.same("5: threaded anew", Check.next(x), "1111");
        x.weave(3);
        Check.law(x, "k3(f,b)");
        check.same("5: the next pick has the number PICKS", Check.next(x), "2222");
    }

    private static void fault(String law, int place) {
        CardLoom x = Check.loom(FOUR, "c1(f,b)");
        check.due("5: '" + law + "'", Check.law(x, law), -100 - place);
        check.due("5: the tape is empty", x.told(6), 0);
        check.same("5: the law stays", Check.next(x), "1222");
    }

    private static void faults() {
        String[] texts = {"", "q", "F", "ff", "f)", "k", "k0(f,b)", "k00(f,b)", "k(f,b)", "k100(f,b)", "k1f", "k1(",
            "k1(f", "k1(f,", "k1(f,b", "k1(f;b)", "k1(f)", "k1(f,b,f)", "k1(f,b)f", "x0(f,b)", "x00", "x(f,b)",
            "c(f,b)", "c100(f,b)", "s(f)", "s100(f)", "s1(f,b)", "d1(f)", "d(f,b)", "d()", "r", "r(", "r(f", "m[f)",
            "t(f)", "t(f,)", "t(,f)", "k1(x0(f,b),q)", "k0q", "k-1(f,b)", "r(k0(f,b))", " f", "f ", "k 1(f,b)",
            "k1(f, b)", "c7", "c77", "k0", "k5(k0", "e", "g(f)"};
        int[] faults = {0, 0, 0, 1, 1, 1, 1, 1, 1, 3, 2, 3,
            4, 5, 6, 4, 4, 6, 7, 1, 1, 1,
            1, 3, 1, 3, 4, 1, 3, 2, 1, 2, 3, 1,
            3, 4, 2, 4, 1, 1, 3, 0, 1, 1,
            5, 2, 3, 1, 4, 0, 0};
        check.due("as many faults as texts", faults.length, texts.length);
        for (int i = 0; i < texts.length; i++) {
            fault(texts[i], faults[i]);
        }
        check.due("5: a 0 ahead", Check.law(new CardLoom(), "k01(f,b)"), 2);
        check.due("5: c00", Check.law(new CardLoom(), "c00(f,b)"), 2);
        check.due("5: s00", Check.law(new CardLoom(), "s00(f)"), 1);
    }

    private static void depth() {
        fault("r(r(r(r(r(r(r(f)))))))", 12);
        fault("r(r(r(r(r(r(r", 12);
        fault("r(r(r(r(r(r(", 12);
        for (String opener : new String[] {"k1(f,b)", "k0(f,b)", "k", "c1(f,b)", "x1(f,b)", "x0", "s1(f)", "s(f)", "d(f)",
            "r(f)", "m(f)", "t(f,b)", "q"}) {
            fault("r(r(r(r(r(r(" + opener + "))))))", 12);
            fault("t(f,t(f,t(f,t(f,t(f,t(f," + opener + "))))))", 24);
        }
        fault("t(f,r(r(r(r(r(r(f)))))))", 14);
        fault("r(r(r(r(r(k0(f,b))))))", 11);
        fault("r(r(r(r(r(k1f", 12);
        fault("r(r(r(r(r(r(f)))))", 18);
        CardLoom x = Check.loom(FOUR, "c1(f,b)");
        check.due("5: six are fine", Check.law(x, "r(r(r(r(r(r(f))))))"), 1);
        check.same("5: six times reversed", Check.next(x), "1111");
        check.due("5: side by side", Check.law(x, "t(t(t(t(t(t(i,i),i),i),i),i),t(t(t(t(t(i,i),i),i),i),b))"), 12);
        check.same("5: the last of them", Check.next(x), "2222");
        check.due("5: 80 bytes", Check.law(x,
            "k01(k01(k01(c01(f,f),c01(f,f)),k01(c1(f,f),c1(f,f))),k1(k1(d(f),f),k1(f,d(b))))"), 12);
    }
}
