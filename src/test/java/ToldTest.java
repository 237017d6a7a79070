/** Promises 35 to 37 and 43 to 44: spell, paper, told, image, undo. */
public final class ToldTest {
    private static final Check check = new Check("ToldTest");
    private static final String TEN = "abcdS;efghZ;ijjiS;aaaaZ;bbbbS;ccccZ;ddddS;eeeeZ;ffffS;ggggZ";

    public static void main(String[] args) {
        spell();
        told();
        image();
        imageLeaves();
        imageOfNoCards();
        check.end();
    }

    private static void spell() {
        CardLoom x = new CardLoom();
        check.due("35: no cards", x.spell(), 0);
        check.due("36: nothing", x.paper(0), CardLoom.NONE);
        Check.thread(x, "abcdS;jihgZ");
        check.due("35: two cards", x.spell(), 11);
        check.same("36: two cards", Check.paper(x), "abcdS;jihgZ");
        check.due("36: -1", x.paper(-1), CardLoom.NONE);
        check.due("36: 11", x.paper(11), CardLoom.NONE);
        check.due("36: 10", x.paper(10), 'Z');
        x.turn(0, 1);
        x.slant(0);
        x.recolour(1, 3, 0);
        check.same("36: the latest one stays", Check.paper(x), "abcdS;jihgZ");
        check.due("35: again", x.spell(), 11);
        check.same("36: as it is now", Check.paper(x), "abcdZ;jihaZ");
        Check.thread(x, TEN);
        check.due("35: ten cards", x.spell(), 59);
        check.same("36: ten cards", Check.paper(x), TEN);
        Check.thread(x, "aaaaS");
        check.due("35: one card", x.spell(), 5);
        check.due("36: a shorter one", x.paper(5), CardLoom.NONE);
        check.due("37: bytes of the paper", x.told(7), 5);
    }

    private static void told() {
        CardLoom x = Check.loom("abcdS;aaaaZ;abcdS", "c1(f,c2(b,i))");
        x.weave(4);
        x.turn(2, 3);
        x.lines(5);
        Check.feed(x, "abc");
        x.spell();
        int[] due = {3, 5, 5, 10, 5, 4, 3, 17};
        for (int what = 0; what < due.length; what++) {
            check.due("37: told(" + what + ")", x.told(what), due[what]);
        }
        check.due("37: 8", x.told(8), CardLoom.NONE);
        check.due("37: -1", x.told(-1), CardLoom.NONE);
        x.unweave(2);
        check.due("37: rows", x.told(1), 3);
        check.due("37: picks", x.told(2), 3);
        check.due("37: twists", x.told(3), 6);
        check.due("37: float", x.told(5), 3);
    }

    private static void image() {
        CardLoom x = Check.loom("abcdS;abcdZ", "k2(f,b)");
        check.due("44: none", x.undo(), CardLoom.STATE);
        x.weave(3);
        check.due("43: three rows", x.image(), 3);
        Check.law(x, "h");
        x.weave(5);
        x.slant(0);
        x.place(1, 3);
        x.recolour(0, 0, 9);
        check.due("44: three rows", x.undo(), 3);
        check.due("44: rows", x.told(1), 3);
        check.due("44: picks", x.told(2), 3);
        check.due("44: twists", x.told(3), 2);
        check.same("44: the law", Check.next(x), "22");
        check.due("44: slant", x.card(0, 4), 0);
        check.due("44: place", x.card(1, 5), 1);
        check.due("44: colour", x.card(0, 0), 0);
        check.due("44: no fourth row", x.front(3, 0), CardLoom.NONE);
        x.unweave(3);
        x.turn(0, 3);
        Check.thread(x, "jjjjS");
        check.due("44: again", x.undo(), 3);
        check.due("44: cards", x.told(0), 2);
        check.same("44: rows of card 0", Check.turnings(x, 0), "112");
        check.due("44: front", x.front(1, 0), 2);
        check.due("44: back", x.back(1, 0), 0);
        check.due("44: lean", x.lean(2, 1), 1);
        check.due("44: unweave goes on", x.unweave(3), 3);
        check.due("44: nothing twisted", x.told(3), 0);
        check.due("43: a new one", x.image(), 0);
        x.weave(2);
        check.due("44: to the new one", x.undo(), 0);
    }

    private static void imageLeaves() {
        CardLoom x = Check.loom("abcdS", "f");
        x.lines(2);
        x.paint(1, 0, 4);
        x.spell();
        x.list(0, 2);
        x.image();
        x.paint(1, 0, 7);
        x.lines(3);
        x.slant(0);
        x.recolour(0, 0, 8);
        x.spell();
        x.list(1, 1);
        x.set(0, 1, 77);
        Check.feed(x, "xy");
        check.due("44: undo", x.undo(), 0);
        check.due("44: lines stay", x.told(4), 3);
        check.due("44: the picture stays", x.paint(1, 0, 0), 7);
        check.same("44: the paper stays", Check.paper(x), "ibcdZ");
        check.due("44: the tape stays", x.told(6), 2);
        check.due("44: lists stay", x.get(0, 1), 77);
        check.due("44: lists stay, too", x.get(1, 0), 0);
        x.spell();
        check.same("44: the threading does not", Check.paper(x), "abcdS");
    }

    private static void imageOfNoCards() {
        CardLoom x = new CardLoom();
        check.due("43: no cards", x.image(), 0);
        Check.thread(x, "abcdS");
        x.weave(3);
        check.due("35: five bytes", x.spell(), 5);
        check.due("44: no rows", x.undo(), 0);
        check.due("44: no cards", x.told(0), 0);
        check.due("44: none to weave", x.weave(1), CardLoom.STATE);
        check.due("37: the paper stays", x.told(7), 5);
        check.due("35: nothing to spell", x.spell(), 0);
        check.due("36: an empty paper", x.paper(0), CardLoom.NONE);
    }
}
