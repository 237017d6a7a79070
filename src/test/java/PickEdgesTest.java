/** Promises 10 to 17: each sentence of the document that names an edge of a PICK or a ROW, and a test of it. */
public final class PickEdgesTest {
    private static final Check check = new Check("PickEdgesTest");
    private static final int NONE = CardLoom.NONE, BAD = CardLoom.BAD, STATE = CardLoom.STATE, FULL = CardLoom.FULL,
        JAMS = CardLoom.JAMS;
    private static final String TEN = "abcdS;abcdS;abcdS;abcdS;abcdS;abcdS;abcdS;abcdS;abcdS;abcdS";

    public static void main(String[] args) {
        turnOneOfTen();
        turnInOrder();
        packEachSet();
        packNoneAboveTheCards();
        packInOrder();
        weaveNumber();
        weaveFewer();
        jamsChangesNothing();
        jamsOfTheLastCard();
        fullThenRoom();
        unweaveNumber();
        unweaveFewer();
        unweavePlaces();
        unweaveKeepsChanges();
        rowsEither();
        leanOfEach();
        rowsAsTheyWere();
        check.end();
    }

    /** 10: "A PICK in which one CARD gets a TURNING, all others are IDLE: how many ROWS there are." */
    private static void turnOneOfTen() {
        CardLoom x = Check.loom(TEN, "h");
        for (int c = 0; c < 10; c++) {
            check.due("10: card " + c, x.turn(c, 1 + c % 3), c + 1);
            for (int other = 0; other < 10; other++) {
                check.due("17: card " + other, x.turning(c, other), other == c ? 1 + c % 3 : 0);
            }
        }
        check.due("10: card 10", x.turn(10, 1), NONE);
        check.due("10: card -1", x.turn(-1, 1), NONE);
        check.due("10: ten rows", x.told(1), 10);
    }

    /** 10: "NONE: card; BAD; FULL: 50 there are; JAMS." */
    private static void turnInOrder() {
        CardLoom x = Check.loom("abcdS;abcdS", "c1(h,i)");
        x.weave(49);
        check.due("10: JAMS", x.turn(0, 3), JAMS);
        check.due("10: the 50th", x.turn(1, 0), 50);
        check.due("10: FULL ahead of JAMS", x.turn(0, 3), FULL);
        check.due("10: BAD ahead of FULL", x.turn(0, 4), BAD);
        check.due("10: BAD ahead of FULL, -1", x.turn(0, -1), BAD);
        check.due("10: NONE ahead of BAD", x.turn(2, 4), NONE);
        check.due("10: NONE ahead of FULL", x.turn(2, 0), NONE);
        check.due("10: 50 there are", x.told(1), 50);
    }

    /** 11: "A PICK in which a set of CARDS (bits) gets a TURNING, all others are IDLE". */
    private static void packEachSet() {
        for (int set : new int[] {0, 1, 2, 512, 513, 341, 682, 1022, 1023}) {
            CardLoom x = Check.loom(TEN, "f");
            check.due("11: set " + set, x.pack(set, 2), 1);
            for (int c = 0; c < 10; c++) {
                check.due("11: card " + c + " by " + set, x.turning(0, c), (set & 1 << c) != 0 ? 2 : 0);
            }
        }
    }

    /** 11: "BAD: set (0 .. 1023; none above the CARDS), turning". */
    private static void packNoneAboveTheCards() {
        for (int cards = 1; cards <= 10; cards++) {
            CardLoom x = Check.loom(TEN.substring(0, 6 * cards - 1), "f");
            int all = (1 << cards) - 1;
            check.due("11: all of " + cards, x.pack(all, 1), 1);
            check.due("11: one more than " + cards, x.pack(all + 1, 1), BAD);
            check.due("11: all and one more", x.pack(2 * all + 1, 1), BAD);
            check.due("11: -1", x.pack(-1, 1), BAD);
            check.due("11: 1024", x.pack(1024, 1), BAD);
            check.due("11: idle, above the cards", x.pack(all + 1, 0), BAD);
            check.due("11: one row", x.told(1), 1);
        }
        check.due("11: 0 of none", new CardLoom().pack(0, 0), STATE);
    }

    /** 11: "BAD: ..; STATE: no CARDS; FULL; JAMS." */
    private static void packInOrder() {
        CardLoom none = new CardLoom();
        check.due("11: BAD ahead of STATE", none.pack(1, 0), BAD);
        check.due("11: BAD ahead of STATE, turning", none.pack(0, 4), BAD);
        check.due("11: STATE", none.pack(0, 3), STATE);
        CardLoom x = Check.loom("abcdS;abcdS", "c1(h,i)");
        x.weave(49);
        check.due("11: JAMS", x.pack(3, 3), JAMS);
        check.due("11: none of it jams", x.pack(0, 3), 50);
        check.due("11: FULL ahead of JAMS", x.pack(3, 3), FULL);
        check.due("11: BAD ahead of FULL", x.pack(4, 3), BAD);
        check.due("11: BAD ahead of FULL, turning", x.pack(3, 4), BAD);
    }

    /** 12: "BAD: n (1 .. 50); STATE: no CARDS." */
    private static void weaveNumber() {
        for (int n = -2; n <= 53; n++) {
            CardLoom x = Check.loom("abcdS", "k1(f,b)");
            boolean is = n >= 1 && n <= 50;
            check.due("12: n " + n, x.weave(n), is ? n : BAD);
            check.due("12: rows of n " + n, x.told(1), is ? n : 0);
            check.due("12: no cards, n " + n, new CardLoom().weave(n), is ? STATE : BAD);
        }
    }

    /** 12: "a ROW is WOVEN (50 at most)"; "(fewer, if there is no room for a ROW, or it JAMS)". */
    private static void weaveFewer() {
        for (int had = 0; had <= 50; had++) {
            CardLoom x = Check.loom("abcdS", "i");
            if (had > 0) {
                x.weave(had);
            }
            check.due("12: room behind " + had, x.weave(50), 50 - had);
            check.due("12: 50 rows", x.told(1), 50);
            check.due("12: none then", x.weave(1), 0);
        }
        CardLoom x = Check.loom("abcdS;abcdS", "c1(k40(i,h),k9(h,i))");
        check.due("12: 50 without a jam", x.weave(50), 50);
        x = Check.loom("abcdS;abcdS", "c1(f,h)");
        check.due("12: 49, then it jams", x.weave(50), 49);
        check.due("12: just 49", x.told(1), 49);
        x.unweave(1);
        check.due("12: one of two", x.weave(2), 1);
    }

    /** 10 to 12: "would a TWIST be beyond -99 or 99: it JAMS, and nothing is changed." */
    private static void jamsChangesNothing() {
        CardLoom x = Check.loom("abcdS;abcdS", "c1(i,h)");
        x.weave(49);
        x.place(0, 1);
        Check.law(x, "h");
        for (int way = 0; way < 3; way++) {
            int answer = way == 0 ? x.turn(1, 3) : way == 1 ? x.pack(3, 3) : x.weave(1);
            check.due(10 + way + ": jams", answer, way == 2 ? 0 : JAMS);
            check.due("11: the place ahead of it stays", x.card(0, 5), 1);
            check.due("11: the twist ahead of it stays", x.card(0, 6), 100);
            check.due("11: its place stays", x.card(1, 5), 2);
            check.due("11: its twist stays", x.card(1, 6), 198);
            check.due("11: no row", x.told(1), 49);
            check.due("11: no pick", x.told(2), 49);
            check.due("14: no row 49", x.front(49, 0), NONE);
        }
        check.due("11: the one that does not jam", x.pack(1, 3), 50);
    }

    /** 11: one CARD that would be beyond 99 is enough, be it the first or the last of ten. */
    private static void jamsOfTheLastCard() {
        for (int card = 0; card < 10; card++) {
            CardLoom x = Check.loom(TEN, "i");
            for (int i = 0; i < 49; i++) {
                x.turn(card, 3);
            }
            check.due("11: card " + card, x.pack(1023, 3), JAMS);
            check.due("11: without card " + card, x.pack(1023 - (1 << card), 3), 50);
        }
    }

    /** 10, 11: "FULL: 50 there are": 49 there are is not full, and one taken back makes room for one. */
    private static void fullThenRoom() {
        CardLoom x = Check.loom("abcdS", "i");
        x.weave(49);
        check.due("10: the 50th", x.turn(0, 1), 50);
        check.due("10: full", x.turn(0, 1), FULL);
        x.unweave(1);
        check.due("11: the 50th", x.pack(1, 1), 50);
        check.due("11: full", x.pack(1, 1), FULL);
        x.unweave(2);
        check.due("12: two", x.weave(3), 2);
    }

    /** 13: "BAD: n (1 .. 50)." */
    private static void unweaveNumber() {
        for (int n = -2; n <= 53; n++) {
            CardLoom x = Check.loom("abcdS", "f");
            x.weave(50);
            boolean is = n >= 1 && n <= 50;
            check.due("13: n " + n, x.unweave(n), is ? n : BAD);
            check.due("13: rows left of n " + n, x.told(1), is ? 50 - n : 50);
            check.due("13: picks left of n " + n, x.told(2), is ? 50 - n : 50);
            check.due("13: twist left of n " + n, x.told(3), is ? 50 - n : 50);
        }
    }

    /** 13: "(fewer, if there are fewer): how many". */
    private static void unweaveFewer() {
        check.due("13: no cards", new CardLoom().unweave(50), 0);
        for (int rows = 1; rows < 50; rows++) {
            CardLoom x = Check.loom("abcdS", "f");
            x.weave(rows);
            check.due("13: one more than " + rows, x.unweave(rows + 1), rows);
            check.due("13: none is left", x.told(1), 0);
            check.due("13: none any more", x.unweave(1), 0);
            check.due("13: place", x.card(0, 5), 0);
        }
    }

    /** 13: "PLACES, TWISTS are as ahead of them". */
    private static void unweavePlaces() {
        int[] turnings = {1, 1, 3, 2, 0, 2, 2, 2, 3, 3, 1, 0};
        int[] places = {0, 1, 2, 0, 3, 3, 2, 1, 0, 2, 0, 1, 1};
        int[] twists = {0, 1, 2, 4, 3, 3, 2, 1, 0, 2, 4, 5, 5};
        CardLoom x = Check.loom("abcdZ", "i");
        for (int turning : turnings) {
            x.turn(0, turning);
        }
        for (int rows = 12; rows >= 0; rows--) {
            check.due("13: place behind " + rows, x.card(0, 5), places[rows]);
            check.due("13: twist behind " + rows, x.card(0, 6), 100 + twists[rows]);
            check.due("13: one of " + rows, x.unweave(1), rows > 0 ? 1 : 0);
        }
    }

    /** 13: "(slant(), place(), recolour() since then stay: a PLACE is moved as it had been)". */
    private static void unweaveKeepsChanges() {
        int[] moved = {0, 3, 1, 2};
        for (int turning = 0; turning < 4; turning++) {
            for (int place = 0; place < 4; place++) {
                CardLoom x = Check.loom("abcdS;abcdZ", "i");
                x.turn(0, 0);
                x.turn(0, turning);
                x.slant(0);
                x.place(0, place);
                x.recolour(0, 2, 9);
                x.unweave(1);
                String what = place + " back by " + turning;
                check.due("13: place " + what, x.card(0, 5), (place + moved[turning]) % 4);
                check.due("13: twist " + what, x.card(0, 6), 100);
                check.due("13: slant " + what, x.card(0, 4), 1);
                check.due("13: colour " + what, x.card(0, 2), 9);
                check.due("13: the other's slant", x.card(1, 4), 1);
                check.due("13: the other's place", x.card(1, 5), 0);
            }
        }
    }

    /** 14 to 17: "NONE: either." */
    private static void rowsEither() {
        CardLoom x = Check.loom("abcdS;abcdS;abcdS", "f");
        x.weave(2);
        for (int row = -1; row <= 3; row++) {
            for (int card = -1; card <= 4; card++) {
                boolean is = row >= 0 && row < 2 && card >= 0 && card < 3;
                String at = " (" + row + ", " + card + ")";
                check.due("14:" + at, x.front(row, card), is ? row + 1 : NONE);
                check.due("15:" + at, x.back(row, card), is ? (row + 3) % 4 : NONE);
                check.due("16:" + at, x.lean(row, card), is ? 1 : NONE);
                check.due("17:" + at, x.turning(row, card), is ? 1 : NONE);
            }
        }
        x = Check.loom(TEN, "h");
        x.weave(49);
        check.due("14: the 50th is not there", x.front(49, 9), NONE);
        x.turn(9, 1);
        check.due("14: the 50th, the tenth", x.front(49, 9), 3);
        check.due("15: the 50th, the tenth", x.back(49, 9), 1);
        check.due("16: the 50th, the tenth", x.lean(49, 9), 1);
        check.due("17: the 50th, the tenth", x.turning(49, 9), 1);
        check.due("14: the 51st", x.front(50, 9), NONE);
        x.unweave(1);
        check.due("14: taken back", x.front(49, 9), NONE);
    }

    /** 16: "0 of IDLE, 3 of HALF; else 1, if it was turned FORWARD with SLANT S or BACK with SLANT Z, otherwise 2". */
    private static void leanOfEach() {
        int[][] due = {{0, 1, 2, 3}, {0, 2, 1, 3}};
        CardLoom x = Check.loom("abcdS;abcdZ", "i");
        for (int turning = 0; turning < 4; turning++) {
            x.pack(3, turning);
            for (int slant = 0; slant < 2; slant++) {
                check.due("16: slant " + slant + " by " + turning, x.lean(turning, slant), due[slant][turning]);
            }
        }
    }

    /** 14 to 17: a ROW is what it was as it was WOVEN. */
    private static void rowsAsTheyWere() {
        CardLoom x = Check.loom("abcdS", "f");
        x.weave(1);
        x.slant(0);
        x.place(0, 3);
        x.recolour(0, 1, 9);
        x.recolour(0, 3, 9);
        Check.law(x, "b");
        check.due("14: front", x.front(0, 0), 1);
        check.due("15: back", x.back(0, 0), 3);
        check.due("16: lean", x.lean(0, 0), 1);
        check.due("17: turning", x.turning(0, 0), 1);
        x.weave(2);
        check.due("14: the next one's", x.front(1, 0), 2);
        check.due("16: the next one's", x.lean(1, 0), 1);
        check.due("15: back of the one behind", x.back(2, 0), 9);
        check.due("14: front of the one behind", x.front(2, 0), 9);
    }
}
