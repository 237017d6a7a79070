/** Promises 10 to 17: turn, pack, weave, unweave, and what the ROWS tell. */
public final class PicksTest {
    private static final Check check = new Check("PicksTest");

    public static void main(String[] args) {
        turn();
        pack();
        weave();
        jams();
        unweave();
        unweaveChanged();
        rows();
        check.end();
    }

    private static void turn() {
        CardLoom x = Check.loom("abcdS;abcdS", "h");
        check.due("10: one row", x.turn(0, 1), 1);
        check.due("10: two rows", x.turn(1, 2), 2);
        check.due("10: idle weaves, too", x.turn(1, 0), 3);
        check.due("10: half", x.turn(1, 3), 4);
        check.same("10: card 0", Check.turnings(x, 0), "1000");
        check.same("10: card 1", Check.turnings(x, 1), "0203");
        check.due("10: card 2", x.turn(2, 9), CardLoom.NONE);
        check.due("10: card -1", x.turn(-1, 0), CardLoom.NONE);
        check.due("10: turning 4", x.turn(0, 4), CardLoom.BAD);
        check.due("10: turning -1", x.turn(0, -1), CardLoom.BAD);
        check.due("10: picks", x.told(2), 4);
        x.weave(50);
        check.due("10: full", x.turn(0, 1), CardLoom.FULL);
        check.due("10: BAD ahead of FULL", x.turn(0, 4), CardLoom.BAD);
        check.due("10: 50 rows", x.told(1), 50);
    }

    private static void pack() {
        CardLoom x = Check.loom("abcdS;abcdS;abcdS", "i");
        check.due("11: none", x.pack(0, 1), 1);
        check.due("11: 1 and 2", x.pack(6, 1), 2);
        check.due("11: all", x.pack(7, 2), 3);
        check.due("11: 0 and 2", x.pack(5, 3), 4);
        check.same("11: card 0", Check.turnings(x, 0), "0023");
        check.same("11: card 1", Check.turnings(x, 1), "0120");
        check.same("11: card 2", Check.turnings(x, 2), "0123");
        check.due("11: set 8", x.pack(8, 1), CardLoom.BAD);
        check.due("11: set 1023", x.pack(1023, 1), CardLoom.BAD);
        check.due("11: set -1", x.pack(-1, 1), CardLoom.BAD);
        check.due("11: least set", x.pack(Integer.MIN_VALUE, 1), CardLoom.BAD);
        check.due("11: turning 4", x.pack(1, 4), CardLoom.BAD);
        check.due("11: turning -1", x.pack(1, -1), CardLoom.BAD);
        x.weave(50);
        check.due("11: full", x.pack(1, 1), CardLoom.FULL);
        check.due("11: BAD ahead of FULL", x.pack(8, 1), CardLoom.BAD);
        CardLoom none = new CardLoom();
        check.due("11: no cards", none.pack(0, 3), CardLoom.STATE);
        check.due("11: BAD ahead of STATE", none.pack(0, 4), CardLoom.BAD);
        check.due("11: a set of none", none.pack(1, 0), CardLoom.BAD);
        CardLoom ten = Check.loom("abcdS;abcdS;abcdS;abcdS;abcdS;abcdS;abcdS;abcdS;abcdS;abcdS", "i");
        check.due("11: all ten", ten.pack(1023, 1), 1);
        check.due("11: 1024", ten.pack(1024, 1), CardLoom.BAD);
        check.due("11: the tenth", ten.turning(0, 9), 1);
        check.due("11: twists", ten.told(3), 10);
    }

    private static void weave() {
        CardLoom x = Check.loom("abcdS;abcdS", "k2(f,c1(b,h))");
        check.due("12: three", x.weave(3), 3);
        check.due("12: two more", x.weave(2), 2);
        check.same("12: card 0", Check.turnings(x, 0), "11221");
        check.same("12: card 1", Check.turnings(x, 1), "11331");
        check.due("12: n 0", x.weave(0), CardLoom.BAD);
        check.due("12: n 51", x.weave(51), CardLoom.BAD);
        check.due("12: n -1", x.weave(-1), CardLoom.BAD);
        check.due("12: till it is full", x.weave(50), 45);
        check.due("12: full", x.weave(50), 0);
        check.due("12: 50 rows", x.told(1), 50);
        CardLoom none = new CardLoom();
        check.due("12: no cards", none.weave(50), CardLoom.STATE);
        check.due("12: BAD ahead of STATE", none.weave(51), CardLoom.BAD);
        check.due("12: all idle at first", Check.loom("abcdS", "").weave(50), 50);
    }

    private static void jams() {
        CardLoom x = Check.loom("abcdS;abcdS", "c1(h,b)");
        check.due("12: 49 are done", x.weave(50), 49);
        check.due("12: 98", x.card(0, 6), 198);
        check.due("12: 50 less", x.card(1, 6), 51);
        check.due("10: half at 98 jams", x.turn(0, 3), CardLoom.JAMS);
        check.due("11: half at 98 jams", x.pack(3, 3), CardLoom.JAMS);
        check.due("12: no pick", x.weave(1), 0);
        check.due("12: the other stays", x.card(1, 6), 51);
        check.due("12: no row", x.told(1), 49);
        check.due("10: forward at 98", x.turn(0, 1), 50);
        x.unweave(1);
        check.due("11: the other one alone", x.pack(2, 2), 50);
        check.due("11: 98 and 50 less", x.told(3), 98 + 50);
    }

    private static void unweave() {
        CardLoom x = Check.loom("abcdS;abcdZ", "k1(c1(f,h),c1(b,i))");
        check.due("13: nothing there", x.unweave(5), 0);
        x.weave(5);
        check.due("13: one", x.unweave(1), 1);
        check.due("13: rows", x.told(1), 4);
        check.due("13: picks", x.told(2), 4);
        check.due("13: place 0", x.card(0, 5), 0);
        check.due("13: twist 0", x.card(0, 6), 100);
        check.due("13: place 1", x.card(1, 5), 0);
        check.due("13: twist 1", x.card(1, 6), 104);
        check.due("13: no such row", x.front(4, 0), CardLoom.NONE);
        check.due("13: n 0", x.unweave(0), CardLoom.BAD);
        check.due("13: n 51", x.unweave(51), CardLoom.BAD);
        check.due("13: n -1", x.unweave(-1), CardLoom.BAD);
        check.due("13: two", x.unweave(2), 2);
        check.due("13: twist 1 then", x.card(1, 6), 102);
        check.due("13: fewer", x.unweave(50), 2);
        check.due("13: no twists", x.told(3), 0);
        check.due("13: place", x.card(1, 5), 0);
    }

    private static void unweaveChanged() {
        CardLoom x = Check.loom("abcdS", "c1(f,f)");
        x.weave(3);
        x.place(0, 0);
        x.slant(0);
        x.recolour(0, 1, 9);
        check.due("13: two back", x.unweave(2), 2);
        check.due("13: the place is moved back", x.card(0, 5), 2);
        check.due("13: the twist as ahead", x.card(0, 6), 101);
        check.due("13: slant stays", x.card(0, 4), 1);
        check.due("13: colour stays", x.card(0, 1), 9);
        check.due("13: the row left stays", x.front(0, 0), 1);
        x.turn(0, 3);
        x.turn(0, 2);
        x.turn(0, 0);
        x.place(0, 1);
        check.due("13: half, back and idle", x.unweave(3), 3);
        check.due("13: moved as it had been", x.card(0, 5), 0);
    }

    private static void rows() {
        CardLoom x = Check.loom("abcdS;abcdZ", "k2(f,k1(b,h))");
        x.turn(0, 0);
        x.weave(3);
        x.turn(1, 2);
        int[][] fronts = {{0, 0}, {1, 1}, {0, 0}, {2, 2}, {2, 1}};
        int[][] leans = {{0, 0}, {1, 2}, {2, 1}, {3, 3}, {0, 1}};
        int[][] turnings = {{0, 0}, {1, 1}, {2, 2}, {3, 3}, {0, 2}};
        for (int row = 0; row < 5; row++) {
            for (int c = 0; c < 2; c++) {
                String at = "(" + row + ", " + c + ")";
                check.due("14: front" + at, x.front(row, c), fronts[row][c]);
                check.due("15: back" + at, x.back(row, c), (fronts[row][c] + 2) % 4);
                check.due("16: lean" + at, x.lean(row, c), leans[row][c]);
                check.due("17: turning" + at, x.turning(row, c), turnings[row][c]);
            }
        }
        int[][] nowhere = {{-1, 0}, {5, 0}, {0, -1}, {0, 2}, {Integer.MAX_VALUE, 0}, {0, Integer.MIN_VALUE}};
        for (int[] at : nowhere) {
            check.due("14: NONE", x.front(at[0], at[1]), CardLoom.NONE);
            check.due("15: NONE", x.back(at[0], at[1]), CardLoom.NONE);
            check.due("16: NONE", x.lean(at[0], at[1]), CardLoom.NONE);
            check.due("17: NONE", x.turning(at[0], at[1]), CardLoom.NONE);
        }
    }
}
