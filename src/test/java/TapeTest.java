/** Promises 1 to 4: a new object, feed, clear, thread. */
public final class TapeTest {
    private static final Check check = new Check("TapeTest");

    public static void main(String[] args) {
        newObject();
        feed();
        clear();
        thread();
        threadFaults();
        threadStartsAnew();
        check.end();
    }

    private static void newObject() {
        CardLoom x = new CardLoom();
        for (int what = 0; what <= 7; what++) {
            check.due("1: told(" + what + ")", x.told(what), 0);
        }
        check.due("1: card", x.card(0, 0), CardLoom.NONE);
        check.due("1: front", x.front(0, 0), CardLoom.NONE);
        check.due("1: clear", x.clear(), 0);
        check.due("1: undoing", x.undoing(-1, 1), 0);
        check.due("1: undo", x.undo(), CardLoom.STATE);
        check.due("1: get", x.get(0, 0), -2000000000);
        check.due("1: unweave", x.unweave(1), 0);
    }

    private static void feed() {
        CardLoom x = new CardLoom();
        check.due("2: feed(0)", x.feed(0), CardLoom.BAD);
        check.due("2: feed(128)", x.feed(128), CardLoom.BAD);
        check.due("2: feed(-1)", x.feed(-1), CardLoom.BAD);
        check.due("2: feed(least)", x.feed(Integer.MIN_VALUE), CardLoom.BAD);
        check.due("2: feed(1)", x.feed(1), 1);
        check.due("2: feed(127)", x.feed(127), 2);
        for (int i = 3; i <= 80; i++) {
            check.due("2: feed", x.feed('f'), i);
        }
        check.due("2: feed when full", x.feed('f'), CardLoom.FULL);
        check.due("2: BAD is named ahead of FULL", x.feed(0), CardLoom.BAD);
        check.due("2: still 80", x.told(6), 80);
    }

    private static void clear() {
        CardLoom x = new CardLoom();
        Check.feed(x, "abc");
        check.due("3: clear", x.clear(), 3);
        check.due("3: empty then", x.told(6), 0);
        check.due("3: clear again", x.clear(), 0);
        check.due("3: what is fed then begins anew", Check.law(x, "f"), 1);
    }

    private static void thread() {
        CardLoom x = new CardLoom();
        check.due("4: two cards", Check.thread(x, "abcdS;jihgZ"), 2);
        check.due("4: the tape is empty", x.told(6), 0);
        for (int hole = 0; hole < 4; hole++) {
            check.due("4: colour", x.card(0, hole), hole);
            check.due("4: colour", x.card(1, hole), 9 - hole);
        }
        check.due("4: slant S", x.card(0, 4), 0);
        check.due("4: slant Z", x.card(1, 4), 1);
        check.due("4: no third", x.card(2, 0), CardLoom.NONE);
        StringBuilder ten = new StringBuilder("aaaaS");
        for (int i = 1; i < 10; i++) {
            ten.append(";bbbbZ");
        }
        check.due("4: ten", Check.thread(x, ten.toString()), 10);
        check.due("4: the tenth", x.card(9, 3), 1);
        check.due("4: one", Check.thread(x, "jjjjZ"), 1);
        check.due("4: no second", x.card(1, 0), CardLoom.NONE);
    }

    private static void threadFaults() {
        CardLoom x = new CardLoom();
        Check.thread(x, "abcdS");
        String[] texts = {"", "a", "abcd", "abcdS;", "kbcdS", "abcdX", "abcSS", "abcds", "abcdS,", "abcdSS",
            "abcdS;abcdz", "AbcdS", "abcdS;;", "`bcdS", "ab dS"};
        int[] faults = {0, 1, 4, 6, 0, 4, 3, 4, 5, 5, 10, 0, 6, 0, 2};
        for (int i = 0; i < texts.length; i++) {
            check.due("4: '" + texts[i] + "'", Check.thread(x, texts[i]), -100 - faults[i]);
            check.due("4: the tape is empty", x.told(6), 0);
            check.due("4: nothing is done", x.told(0), 1);
        }
        StringBuilder eleven = new StringBuilder("aaaaS");
        for (int i = 1; i < 11; i++) {
            eleven.append(";bbbbZ");
        }
        check.due("4: eleven", Check.thread(x, eleven.toString()), -159);
        check.due("4: ten and a ;", Check.thread(x, eleven.substring(0, 60)), -159);
        x.pack(1, 1);
        check.due("4: a fault", Check.thread(x, "x"), -100);
        check.due("4: rows stay with a fault", x.told(1), 1);
        check.due("4: place stays with a fault", x.card(0, 5), 1);
    }

    private static void threadStartsAnew() {
        CardLoom x = Check.loom("abcdS;abcdS", "f");
        x.weave(7);
        x.place(1, 2);
        check.due("4: cards anew", Check.thread(x, "abcdZ;abcdS;aaaaS"), 3);
        check.due("4: no rows", x.told(1), 0);
        check.due("4: no picks", x.told(2), 0);
        check.due("4: no twists", x.told(3), 0);
        check.due("4: place", x.card(1, 5), 0);
        check.due("4: twist", x.card(0, 6), 100);
        check.due("4: no front", x.front(0, 0), CardLoom.NONE);
        check.due("4: float", x.card(0, 7), 0);
        check.same("4: the law stays", Check.next(x), "111");
        check.due("4: unweave", x.unweave(1), 0);
    }
}
