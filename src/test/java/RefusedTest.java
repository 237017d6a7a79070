import java.util.function.ToIntFunction;

/**
 * "NONE (-1) no such number; BAD (-2) a number is not as told; STATE (-3) as told; FULL (-4); JAMS (-6); the first that a
 * call's words name. What is answered so changes nothing.": each refused call of each promise, its answer, and the loom
 * behind it, which stands as one that was not asked.
 */
public final class RefusedTest {
    private static final Check check = new Check("RefusedTest");
    private static final int NONE = CardLoom.NONE, BAD = CardLoom.BAD, STATE = CardLoom.STATE, FULL = CardLoom.FULL,
        JAMS = CardLoom.JAMS, NOTHING = -11, BEYOND = -13, BELOW = -14, NO_VALUE = -2000000000;
    private static final int LEAST = Integer.MIN_VALUE, GREATEST = Integer.MAX_VALUE;

    private static String kind;

    public static void main(String[] args) {
        kind = "rich";
        richCards();
        richPicks();
        richRows();
        richPicture();
        richTold();
        richLists();
        kind = "new";
        newLoom();
        kind = "threaded";
        threadedLoom();
        kind = "full";
        fullLoom();
        kind = "jammed";
        jammedLoom();
        faults();
        check.end();
    }

    private static CardLoom loom() {
        switch (kind) {
            case "rich":
                return rich();
            case "threaded":
                return Check.loom("abcdS;dcbaZ", "c1(f,b)");
            case "full":
                return full();
            case "jammed":
                return jammed();
            default:
                return new CardLoom();
        }
    }

    /** Two CARDS, four ROWS, all that a loom can hold beside them; THE TAPE wants only a ')' to be a LAW. */
    private static CardLoom rich() {
        CardLoom x = Check.loom("abcdS;dcbaZ", "k2(f,b)");
        x.weave(2);
        x.image();
        x.weave(1);
        x.turn(1, 3);
        x.slant(0);
        x.place(0, 2);
        x.spell();
        x.recolour(1, 3, 7);
        x.lines(2);
        x.paint(0, 0, 5);
        x.paint(1, 9, 6);
        x.list(0, 3);
        x.set(0, 0, 11);
        x.set(0, 2, -4);
        x.list(1, 0);
        Check.feed(x, "c1(h,b");
        return x;
    }

    private static CardLoom full() {
        CardLoom x = Check.loom("abcdS", "k2(f,i)");
        x.weave(50);
        x.lines(1);
        x.paint(0, 0, 2);
        return x;
    }

    /** One CARD has a TWIST of 98 in 49 ROWS, the other one could be turned; the LAW turns both by halves. */
    private static CardLoom jammed() {
        CardLoom x = Check.loom("abcdS;abcdZ", "c1(h,i)");
        x.weave(49);
        Check.law(x, "h");
        return x;
    }

    private static void refused(String what, int due, ToIntFunction<CardLoom> call) {
        CardLoom asked = loom();
        check.due(kind + " " + what, call.applyAsInt(asked), due);
        check.same(kind + " " + what + " leaves", Stand.of(asked), Stand.of(loom()));
    }

    private static void richCards() {
        for (int letter : new int[] {0, 128, -1, 255, 256 + 'f', LEAST, GREATEST}) {
            refused("2: feed " + letter, BAD, x -> x.feed(letter));
        }
        for (int what : new int[] {-1, 9, LEAST, GREATEST}) {
            refused("6: what " + what, NONE, x -> x.card(0, what));
        }
        for (int card : new int[] {-1, 2, 9, 10, LEAST, GREATEST}) {
            for (int what = 0; what < 9; what++) {
                int each = what;
                refused("6: card " + card, NONE, x -> x.card(card, each));
            }
            refused("7: card " + card, NONE, x -> x.slant(card));
            refused("8: card " + card, NONE, x -> x.place(card, 0));
            refused("8: card " + card + " ahead of BAD", NONE, x -> x.place(card, 4));
            refused("9: card " + card, NONE, x -> x.recolour(card, 0, 1));
            refused("9: card " + card + " ahead of BAD", NONE, x -> x.recolour(card, 0, 10));
        }
        for (int place : new int[] {-1, 4, LEAST, GREATEST}) {
            refused("8: place " + place, BAD, x -> x.place(1, place));
            refused("9: hole " + place, NONE, x -> x.recolour(1, place, 1));
            refused("9: hole " + place + " ahead of BAD", NONE, x -> x.recolour(1, place, -1));
        }
        for (int colour : new int[] {-1, 10, 'a', LEAST, GREATEST}) {
            refused("9: colour " + colour, BAD, x -> x.recolour(1, 3, colour));
        }
    }

    private static void richPicks() {
        for (int card : new int[] {-1, 2, 31, 32, LEAST, GREATEST}) {
            refused("10: card " + card, NONE, x -> x.turn(card, 1));
            refused("10: card " + card + " ahead of BAD", NONE, x -> x.turn(card, 4));
        }
        for (int turning : new int[] {-1, 4, LEAST, GREATEST}) {
            refused("10: turning " + turning, BAD, x -> x.turn(0, turning));
            refused("11: turning " + turning, BAD, x -> x.pack(1, turning));
            refused("11: turning " + turning + " for none", BAD, x -> x.pack(0, turning));
        }
        for (int set : new int[] {-1, 4, 5, 1023, 1024, 1025, LEAST, GREATEST}) {
            refused("11: set " + set, BAD, x -> x.pack(set, 1));
        }
        for (int n : new int[] {0, -1, 51, LEAST, GREATEST}) {
            refused("12: n " + n, BAD, x -> x.weave(n));
            refused("13: n " + n, BAD, x -> x.unweave(n));
        }
        for (int i : new int[] {-2, 4, LEAST, GREATEST}) {
            refused("21: i " + i, NONE, x -> x.undoing(i, 0));
            refused("21: i " + i, NONE, x -> x.undoing(i, 1));
        }
        for (int what : new int[] {-1, 2, LEAST, GREATEST}) {
            refused("21: what " + what, NONE, x -> x.undoing(0, what));
            refused("21: what " + what + " by i -1", NONE, x -> x.undoing(-1, what));
        }
    }

    private static void richRows() {
        for (int row : new int[] {-1, 4, 50, LEAST, GREATEST}) {
            refused("14: row " + row, NONE, x -> x.front(row, 0));
            refused("15: row " + row, NONE, x -> x.back(row, 0));
            refused("16: row " + row, NONE, x -> x.lean(row, 0));
            refused("17: row " + row, NONE, x -> x.turning(row, 0));
            refused("27: from " + row, NONE, x -> x.matches(row));
            refused("33: row " + row, NONE, x -> x.alike(row, 0));
            refused("33: other " + row, NONE, x -> x.alike(0, row));
            refused("34: row " + row, NONE, x -> x.faces(row));
            refused("41: row " + row, NONE, x -> x.lay(0, 0, row));
            refused("41: row " + row + " ahead of NOTHING", NONE, x -> x.lay(3, 0, row));
            refused("41: row " + row + " ahead of BEYOND", NONE, x -> x.lay(0, -1, row));
            refused("42: row " + row, NONE, x -> x.judge(0, 0, row));
            refused("42: row " + row + " ahead of NOTHING", NONE, x -> x.judge(3, 0, row));
        }
        for (int card : new int[] {-1, 2, 10, LEAST, GREATEST}) {
            refused("14: card " + card, NONE, x -> x.front(0, card));
            refused("15: card " + card, NONE, x -> x.back(0, card));
            refused("16: card " + card, NONE, x -> x.lean(0, card));
            refused("17: card " + card, NONE, x -> x.turning(0, card));
        }
    }

    private static void richPicture() {
        for (int line : new int[] {-1, 2, 7, 8, LEAST, GREATEST}) {
            refused("22: line " + line, NONE, x -> x.paint(line, 0, 1));
            refused("22: line " + line + " ahead of BAD", NONE, x -> x.paint(line, 0, 10));
            refused("24: line " + line, NONE, x -> x.draft(line, 0));
        }
        for (int card : new int[] {-1, 10, LEAST, GREATEST}) {
            refused("22: card " + card, NONE, x -> x.paint(0, card, 1));
            refused("22: card " + card + " ahead of BAD", NONE, x -> x.paint(0, card, -1));
        }
        for (int colour : new int[] {-1, 10, LEAST, GREATEST}) {
            refused("22: colour " + colour, BAD, x -> x.paint(1, 9, colour));
            refused("30: colour " + colour, BAD, x -> x.run(colour));
            refused("31: colour " + colour, BAD, x -> x.colours(colour, 0));
            refused("31: colour " + colour + " ahead of NONE", BAD, x -> x.colours(colour, 3));
        }
        for (int n : new int[] {-1, 9, LEAST, GREATEST}) {
            refused("23: n " + n, BAD, x -> x.lines(n));
        }
        for (int card : new int[] {-1, 2, 10, LEAST, GREATEST}) {
            refused("24: card " + card, NONE, x -> x.draft(0, card));
        }
        for (int card : new int[] {-2, 2, 10, LEAST, GREATEST}) {
            refused("25: card " + card, NONE, x -> x.fewest(card));
        }
        refused("24: lost", -5, x -> x.draft(0, 0));
        refused("25: lost", -5, x -> x.fewest(0));
        refused("25: one is lost", -5, x -> x.fewest(-1));
        refused("26: one is lost", STATE, x -> x.weaveDraft());
        for (int what : new int[] {-1, 3, LEAST, GREATEST}) {
            refused("31: what " + what, NONE, x -> x.colours(0, what));
        }
    }

    private static void richTold() {
        for (int i : new int[] {-1, 10, LEAST, GREATEST}) {
            refused("32: i " + i, NONE, x -> x.ranked(i));
        }
        for (int i : new int[] {-1, 11, 79, 80, LEAST, GREATEST}) {
            refused("36: i " + i, NONE, x -> x.paper(i));
        }
        for (int what : new int[] {-1, 8, LEAST, GREATEST}) {
            refused("37: what " + what, NONE, x -> x.told(what));
        }
    }

    private static void richLists() {
        for (int list : new int[] {-1, 4, LEAST, GREATEST}) {
            refused("38: list " + list, NONE, x -> x.list(list, 2));
            refused("38: list " + list + " ahead of BAD", NONE, x -> x.list(list, 21));
            refused("38: list " + list + " ahead of BELOW", NONE, x -> x.list(list, -1));
            refused("39: list " + list, NONE, x -> x.set(list, 0, 1));
            refused("39: list " + list + " ahead of BEYOND", NONE, x -> x.set(list, -1, 1));
            refused("40: list " + list, NO_VALUE, x -> x.get(list, 0));
            refused("41: list " + list, NONE, x -> x.lay(list, 0, 0));
            refused("42: list " + list, NONE, x -> x.judge(list, 0, 0));
        }
        refused("38: n 21", BAD, x -> x.list(0, 21));
        refused("38: greatest n", BAD, x -> x.list(0, GREATEST));
        refused("38: n -1", BELOW, x -> x.list(0, -1));
        refused("38: least n", BELOW, x -> x.list(0, LEAST));
        for (int i : new int[] {-1, 3, 20, LEAST, GREATEST}) {
            refused("39: i " + i, BEYOND, x -> x.set(0, i, 1));
            refused("39: i " + i + ", nothing held", NOTHING, x -> x.set(3, i, 1));
            refused("40: i " + i, NO_VALUE, x -> x.get(0, i));
            refused("41: i " + i, BEYOND, x -> x.lay(0, i, 0));
            refused("41: i " + i + ", nothing held", NOTHING, x -> x.lay(3, i, 0));
            refused("42: i " + i, 100, x -> x.judge(0, i, 0));
            refused("42: i " + i + ", nothing held", NOTHING, x -> x.judge(3, i, 0));
        }
        refused("39: no place in a row of none", BEYOND, x -> x.set(1, 0, 1));
        refused("39: nothing held", NOTHING, x -> x.set(3, 0, 1));
        refused("40: no place in a row of none", NO_VALUE, x -> x.get(1, 0));
        refused("40: nothing held", NO_VALUE, x -> x.get(3, 0));
        refused("41: no place in a row of none", BEYOND, x -> x.lay(1, 0, 0));
        refused("42: no place in a row of none", 100, x -> x.judge(1, 0, 0));
    }

    /** No CARDS, no ROWS, no LINES, no LISTS, no IMAGE. */
    private static void newLoom() {
        for (int what = 0; what < 9; what++) {
            int each = what;
            refused("6: card 0", NONE, x -> x.card(0, each));
        }
        refused("7: card 0", NONE, x -> x.slant(0));
        refused("8: card 0", NONE, x -> x.place(0, 0));
        refused("9: card 0", NONE, x -> x.recolour(0, 0, 0));
        refused("10: card 0", NONE, x -> x.turn(0, 0));
        refused("11: no cards", STATE, x -> x.pack(0, 0));
        refused("11: set 1 ahead of STATE", BAD, x -> x.pack(1, 0));
        refused("11: turning 4 ahead of STATE", BAD, x -> x.pack(0, 4));
        refused("12: no cards", STATE, x -> x.weave(1));
        refused("12: no cards", STATE, x -> x.weave(50));
        refused("12: n 0 ahead of STATE", BAD, x -> x.weave(0));
        refused("12: n 51 ahead of STATE", BAD, x -> x.weave(51));
        refused("14: row 0", NONE, x -> x.front(0, 0));
        refused("15: row 0", NONE, x -> x.back(0, 0));
        refused("16: row 0", NONE, x -> x.lean(0, 0));
        refused("17: row 0", NONE, x -> x.turning(0, 0));
        refused("18: no cards", STATE, x -> x.returns());
        refused("19: no cards", STATE, x -> x.flat());
        refused("20: no cards", STATE, x -> x.jam());
        refused("21: no first", NONE, x -> x.undoing(0, 0));
        refused("22: line 0", NONE, x -> x.paint(0, 0, 0));
        refused("24: no line, no card", NONE, x -> x.draft(0, 0));
        refused("25: card 0", NONE, x -> x.fewest(0));
        refused("26: no cards", STATE, x -> x.weaveDraft());
        refused("27: row 0", NONE, x -> x.matches(0));
        refused("33: row 0", NONE, x -> x.alike(0, 0));
        refused("34: row 0", NONE, x -> x.faces(0));
        refused("36: byte 0", NONE, x -> x.paper(0));
        refused("39: nothing held", NOTHING, x -> x.set(0, 0, 0));
        refused("40: nothing held", NO_VALUE, x -> x.get(0, 0));
        refused("41: row 0 ahead of NOTHING", NONE, x -> x.lay(0, 0, 0));
        refused("42: row 0 ahead of NOTHING", NONE, x -> x.judge(0, 0, 0));
        refused("44: no image", STATE, x -> x.undo());
    }

    /** CARDS, but no ROWS and no LINES. */
    private static void threadedLoom() {
        refused("14: row 0", NONE, x -> x.front(0, 0));
        refused("15: row 0", NONE, x -> x.back(0, 0));
        refused("16: row 0", NONE, x -> x.lean(0, 0));
        refused("17: row 0", NONE, x -> x.turning(0, 0));
        refused("21: no first", NONE, x -> x.undoing(0, 0));
        refused("24: line 0", NONE, x -> x.draft(0, 0));
        refused("26: no lines", STATE, x -> x.weaveDraft());
        refused("27: row 0", NONE, x -> x.matches(0));
        refused("28: no rows", -5, x -> x.period());
        refused("33: row 0", NONE, x -> x.alike(0, 0));
        refused("34: row 0", NONE, x -> x.faces(0));
        refused("44: no image", STATE, x -> x.undo());
    }

    private static void fullLoom() {
        refused("10: full", FULL, x -> x.turn(0, 1));
        refused("10: full for idle, too", FULL, x -> x.turn(0, 0));
        refused("10: NONE ahead of FULL", NONE, x -> x.turn(1, 1));
        refused("10: BAD ahead of FULL", BAD, x -> x.turn(0, 4));
        refused("11: full", FULL, x -> x.pack(1, 1));
        refused("11: full for none, too", FULL, x -> x.pack(0, 0));
        refused("11: set ahead of FULL", BAD, x -> x.pack(2, 1));
        refused("11: turning ahead of FULL", BAD, x -> x.pack(1, 4));
        refused("12: no room", 0, x -> x.weave(1));
        refused("12: no room", 0, x -> x.weave(50));
        refused("12: n 51 with no room", BAD, x -> x.weave(51));
        refused("26: not one row more", FULL, x -> x.weaveDraft());
    }

    private static void jammedLoom() {
        refused("10: jams", JAMS, x -> x.turn(0, 3));
        refused("10: BAD ahead of JAMS", BAD, x -> x.turn(0, 4));
        refused("11: one of two jams", JAMS, x -> x.pack(3, 3));
        refused("11: it jams alone", JAMS, x -> x.pack(1, 3));
        refused("12: jams", 0, x -> x.weave(1));
    }

    /** "A text with a FAULT does nothing.", but "THE TAPE is empty behind each call that reads it." */
    private static void faults() {
        kind = "rich";
        String seven = "r(r(r(r(r(r(r(f)))))))";
        for (String text : new String[] {"", "q", "k0(f,b)", "f)", "abcd", "abcdS;", "abcdS;jjjjT", seven}) {
            CardLoom asked = rich();
            CardLoom left = rich();
            asked.clear();
            left.clear();
            Check.feed(asked, text);
            check.holds("5: a fault of '" + text + "'", asked.law() <= -100);
            Check.feed(asked, text);
            check.holds("4: a fault of '" + text + "'", asked.thread() <= -100);
            Check.feed(asked, "f");
            check.due("4: the tape was empty", asked.clear(), 1);
            Check.feed(asked, "k1(i,h");
            Check.feed(left, "k1(i,h");
            check.same("4, 5: '" + text + "' leaves", Stand.of(asked), Stand.of(left));
        }
    }
}
