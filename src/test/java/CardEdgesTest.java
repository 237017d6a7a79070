/** Promises 6 to 9: each sentence of the document that names an edge of a CARD, and a test of it. */
public final class CardEdgesTest {
    private static final Check check = new Check("CardEdgesTest");
    private static final int NONE = CardLoom.NONE, BAD = CardLoom.BAD;
    private static final String TEN = "abcdS;efghZ;ijabS;cdefZ;ghijS;aaaaZ;jjjjS;abcdZ;jihgS;fedcZ";

    public static void main(String[] args) {
        cardsThreaded();
        whatOfACard();
        placeModuloFour();
        twistByEach();
        twistGreatestAndLeast();
        floatOfRows();
        nextByTheLaw();
        slantTheOther();
        placeStaysTwist();
        recolourEach();
        check.end();
    }

    /** 6: "CARDS are 0 .. as many as are THREADED (10 at most; none at first)". */
    private static void cardsThreaded() {
        for (int cards = 0; cards <= 10; cards++) {
            CardLoom x = new CardLoom();
            if (cards > 0) {
                Check.thread(x, TEN.substring(0, 6 * cards - 1));
            }
            for (int c = -1; c <= 11; c++) {
                boolean is = c >= 0 && c < cards;
                check.due("6: card " + c + " of " + cards, x.card(c, 5), is ? 0 : NONE);
                check.due("7: card " + c + " of " + cards, x.slant(c), is ? 1 - c % 2 : NONE);
                check.due("8: card " + c + " of " + cards, x.place(c, 0), is ? 0 : NONE);
                check.due("9: card " + c + " of " + cards, x.recolour(c, 1, 0), is ? TEN.charAt(6 * c + 1) - 'a' : NONE);
            }
        }
    }

    /** 6: "what 0 .. 3 the COLOUR in that HOLE, 4 SLANT, 5 PLACE, 6 TWIST and 100, 7 FLOAT, 8 the TURNING". */
    private static void whatOfACard() {
        CardLoom x = Check.loom("jihgZ", "h");
        x.turn(0, 0);
        x.turn(0, 0);
        x.turn(0, 1);
        int[] due = {NONE, 9, 8, 7, 6, 1, 1, 101, 2, 3, NONE};
        for (int what = -1; what <= 9; what++) {
            check.due("6: what " + what, x.card(0, what), due[what + 1]);
        }
    }

    /** 6: "By one a card's PLACE is (modulo 4) 0, 1, 3, 2 more"; 15: "its BACK (that of the HOLE 2 more, modulo 4)". */
    private static void placeModuloFour() {
        for (int place = 0; place < 4; place++) {
            int[] more = {0, 1, 3, 2};
            for (int turning = 0; turning < 4; turning++) {
                CardLoom x = Check.loom("abcdS;abcdS", "i");
                x.place(0, place);
                x.turn(0, turning);
                String what = place + " by " + turning;
                check.due("6: place " + what, x.card(0, 5), (place + more[turning]) % 4);
                check.due("14: front of " + what, x.front(0, 0), (place + more[turning]) % 4);
                check.due("15: back of " + what, x.back(0, 0), (place + more[turning] + 2) % 4);
                check.due("6: the other's by " + what, x.card(1, 5), 0);
                x.unweave(1);
                check.due("13: back to " + what, x.card(0, 5), place);
            }
        }
    }

    /** 6: "its TWIST 0 more, 1 more, 1 less, 2 more". */
    private static void twistByEach() {
        int[] due = {100, 101, 99, 102};
        for (int turning = 0; turning < 4; turning++) {
            CardLoom x = Check.loom("abcdS", "i");
            check.due("6: at first", x.card(0, 6), 100);
            x.turn(0, turning);
            check.due("6: by " + turning, x.card(0, 6), due[turning]);
            x.unweave(1);
            check.due("13: taken back " + turning, x.card(0, 6), 100);
        }
    }

    /** 6: "a TWIST (-99 .. 99; 0 at first)": 50 ROWS bring it up to 99 and down to -50. */
    private static void twistGreatestAndLeast() {
        CardLoom x = Check.loom("abcdS;abcdS", "c1(h,b)");
        x.weave(49);
        check.due("6: 98", x.card(0, 6), 198);
        check.due("10: 100 is beyond it", x.turn(0, 3), CardLoom.JAMS);
        check.due("10: 99 is not", x.turn(0, 1), 50);
        check.due("6: 99", x.card(0, 6), 199);
        check.due("6: -49", x.card(1, 6), 51);
        x = Check.loom("abcdS", "h");
        x.turn(0, 1);
        check.due("12: 99 by halves", x.weave(50), 49);
        check.due("6: 99 by halves", x.card(0, 6), 199);
        x = Check.loom("abcdS", "b");
        check.due("12: all the way back", x.weave(50), 50);
        check.due("6: -50", x.card(0, 6), 50);
    }

    /** 6: "FLOAT of a CARD: the most ROWS one behind the other in which it was IDLE." */
    private static void floatOfRows() {
        CardLoom x = Check.loom("abcdS;abcdS", "i");
        check.due("6: no rows", x.card(0, 7), 0);
        x.turn(1, 1);
        check.due("6: one row", x.card(0, 7), 1);
        check.due("6: never idle", x.card(1, 7), 0);
        x = Check.loom("abcdS", "i");
        x.weave(50);
        check.due("6: all 50", x.card(0, 7), 50);
        for (int turning = 1; turning < 4; turning++) {
            x = Check.loom("abcdS", "i");
            x.weave(2);
            x.turn(0, turning);
            check.due("6: at the beginning, by " + turning, x.card(0, 7), 2);
            x.weave(2);
            check.due("6: not both", x.card(0, 7), 2);
            x.weave(1);
            check.due("6: at the end", x.card(0, 7), 3);
            x.turn(0, turning);
            x.weave(3);
            check.due("6: as long once more", x.card(0, 7), 3);
        }
    }

    /** 6: "8 the TURNING it would get next by the LAW": though there is no room, though it would JAM. */
    private static void nextByTheLaw() {
        CardLoom x = Check.loom("abcdS", "k50(f,b)");
        check.due("6: the first", x.card(0, 8), 1);
        x.weave(49);
        check.due("6: the last", x.card(0, 8), 1);
        x.weave(1);
        check.due("6: no room", x.card(0, 8), 2);
        x = Check.loom("abcdS", "h");
        x.weave(49);
        check.due("12: it jams", x.weave(1), 0);
        check.due("6: it jams", x.card(0, 8), 3);
    }

    /** 7: "a SLANT (0 S, 1 Z)"; "Its SLANT becomes the other one: what it is then." */
    private static void slantTheOther() {
        CardLoom x = Check.loom("abcdS;abcdZ", "f");
        check.due("7: S", x.slant(0), 1);
        check.due("7: Z", x.slant(1), 0);
        check.due("7: S again", x.slant(0), 0);
        check.due("7: Z again", x.slant(1), 1);
        check.due("6: slant of 0", x.card(0, 4), 0);
        check.due("6: slant of 1", x.card(1, 4), 1);
    }

    /** 8: "a PLACE (0 .. 3; 0 at first"; "Its PLACE becomes another (its TWIST stays): what it was. NONE; BAD." */
    private static void placeStaysTwist() {
        CardLoom x = Check.loom("abcdS;abcdS", "h");
        x.weave(1);
        int was = 2;
        for (int place : new int[] {0, 3, 3, 1, 2, 0}) {
            check.due("8: what it was", x.place(1, place), was);
            check.due("8: what it is", x.card(1, 5), place);
            was = place;
            check.due("8: -1", x.place(1, -1), BAD);
            check.due("8: 4", x.place(1, 4), BAD);
            check.due("8: it stays", x.card(1, 5), place);
            check.due("8: its twist stays", x.card(1, 6), 102);
        }
        check.due("8: the other stays", x.card(0, 5), 2);
        check.due("8: NONE ahead of BAD", x.place(2, 4), NONE);
        check.due("8: the rows stay", x.front(0, 1), 2);
    }

    /**
     * 9: "four HOLES 0 .. 3, a COLOUR (0 .. 9"; "The COLOUR in a HOLE becomes another: what it was. NONE: card, hole; BAD."
     */
    private static void recolourEach() {
        CardLoom x = Check.loom("abcdS;efghS", "i");
        for (int hole = -1; hole <= 4; hole++) {
            for (int colour = -1; colour <= 10; colour++) {
                boolean isHole = hole >= 0 && hole < 4;
                boolean isColour = colour >= 0 && colour < 10;
                int was = isHole ? x.card(1, hole) : NONE;
                String what = "9: hole " + hole + ", colour " + colour;
                check.due(what, x.recolour(1, hole, colour), !isHole ? NONE : !isColour ? BAD : was);
                check.due(what + " then", x.card(1, isHole ? hole : 9), isHole && isColour ? colour : was);
            }
        }
        for (int hole = 0; hole < 4; hole++) {
            check.due("9: the other card", x.card(0, hole), hole);
            check.due("9: hole by hole", x.card(1, hole), 9);
        }
    }
}
