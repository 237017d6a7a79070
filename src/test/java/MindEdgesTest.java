/** Promises 18 to 21: each sentence of Terms 3 that names an edge of what is in mind, and a test of it. */
public final class MindEdgesTest {
    private static final Check check = new Check("MindEdgesTest");
    private static final int NONE = CardLoom.NONE, NEVER = -5;
    private static final String TWO = "abcdS;abcdS";
    private static final String TEN = "abcdS;abcdS;abcdS;abcdS;abcdS;abcdS;abcdS;abcdS;abcdS;abcdS";
    /** Away from its PLACE by 1 to 198 picks, there again by 199 and more. */
    private static final String AWAY = "k99(x99(i,h),i)";

    public static void main(String[] args) {
        stateOfNoCards();
        returnsAtOnce();
        returnsOfAll();
        returnsTo200();
        returnsJams();
        flatAtOnce();
        flatOfAll();
        flatTo200();
        flatJams();
        jamAtOnce();
        jamUpAndDown();
        jamTo200();
        jamOfOne();
        fromNow();
        roomIsNoMatter();
        againAndAgain();
        undoingNone();
        undoingGreatest();
        undoingSets();
        undoingFirstAndLast();
        check.end();
    }

    /** A loom of CARDS with a TWIST of 98 for card 0 in 49 ROWS, then the LAW. */
    private static CardLoom at98(String cards, String law) {
        CardLoom x = Check.loom(cards, "c1(h,i)");
        x.weave(49);
        Check.law(x, law);
        return x;
    }

    /** 18 to 20: "STATE: no CARDS." */
    private static void stateOfNoCards() {
        CardLoom x = new CardLoom();
        for (String law : new String[] {"i", "f"}) {
            Check.law(x, law);
            check.due("18: no cards, " + law, x.returns(), CardLoom.STATE);
            check.due("19: no cards, " + law, x.flat(), CardLoom.STATE);
            check.due("20: no cards, " + law, x.jam(), CardLoom.STATE);
        }
        Check.thread(x, "abcdS");
        check.due("18: one card", x.returns(), 4);
        check.due("19: one card", x.flat(), 0);
        check.due("20: one card", x.jam(), 100);
    }

    /** 18: "the least p (1 .. 200)": 1, though p 0 would do as well; 4, though 8 would do as well. */
    private static void returnsAtOnce() {
        String[] laws = {"i", "f", "b", "h", "k1(f,b)", "k2(f,b)", "x3(b,h)", "k1(h,i)"};
        int[] due = {1, 4, 4, 2, 2, 4, 3, 3};
        for (int i = 0; i < laws.length; i++) {
            check.due("18: " + laws[i], Check.loom("abcdS", laws[i]).returns(), due[i]);
        }
    }

    /** 18: "behind which all PLACES are as now": not 0, but as now; TWISTS are no matter. */
    private static void returnsOfAll() {
        check.due("18: of 4 and 2", Check.loom(TWO, "c1(f,h)").returns(), 4);
        check.due("18: of 3 and 2", Check.loom(TWO, "c1(x3(b,h),h)").returns(), 6);
        check.due("18: of 3 and 4", Check.loom(TWO, "c1(x3(b,h),f)").returns(), 12);
        check.due("18: the tenth alone", Check.loom(TEN, "c9(i,f)").returns(), 4);
        CardLoom x = Check.loom(TWO, "c1(i,f)");
        x.weave(1);
        x.place(0, 3);
        check.due("18: as now", x.returns(), 4);
        check.due("18: nothing is done", x.card(1, 5), 1);
        check.due("18: no row", x.told(1), 1);
    }

    /** 18: "(1 .. 200)": 199, 200; 201 is too late. */
    private static void returnsTo200() {
        check.due("18: the 199th", Check.loom("abcdS", AWAY).returns(), 199);
        check.due("18: the 200th", Check.loom(TWO, "c1(" + AWAY + ",k1(f,b))").returns(), 200);
        check.due("18: the 201st", Check.loom(TWO, "c1(" + AWAY + ",x3(b,h))").returns(), NEVER);
        check.due("18: never", Check.loom("abcdS", "k99(x99(i,f),i)").returns(), NEVER);
    }

    /** 18: "-5 (also if it JAMS ahead of that)": the pick that would bring them back may be that pick. */
    private static void returnsJams() {
        check.due("18: 100 is beyond", at98("abcdS", "h").returns(), NEVER);
        check.due("18: 98, forward", at98("abcdS", "f").returns(), NEVER);
        check.due("18: 98, back", at98("abcdS", "b").returns(), 4);
        check.due("18: 98, another one", at98(TWO, "c1(i,f)").returns(), 4);
        for (int less = 1; less <= 3; less++) {
            CardLoom x = at98("abcdS", "f");
            x.unweave(2);
            x.turn(0, less == 1 ? 3 : less == 2 ? 1 : 0);
            x.turn(0, 1);
            check.due("18: from " + (98 - less), x.card(0, 6), 198 - less);
            check.due("18: 4 more than " + (98 - less), x.returns(), less == 3 ? 4 : NEVER);
        }
        CardLoom x = Check.loom(TWO, "c1(k50(x50(i,h),i),b)");
        check.due("18: away for 100 picks, jams by the 100th", x.returns(), NEVER);
        check.due("20: jams by the 100th", x.jam(), 100);
        check.due("18: away for 96 picks", Check.loom(TWO, "c1(x95(i,h),b)").returns(), 96);
    }

    /** 19: "the least p (0 .. 200)": 0, if nothing is twisted. */
    private static void flatAtOnce() {
        for (String law : new String[] {"i", "f", "b", "h", "k1(f,b)"}) {
            check.due("19: " + law, Check.loom("abcdS", law).flat(), 0);
        }
        CardLoom x = Check.loom("abcdS", "b");
        x.turn(0, 1);
        check.due("19: one", x.flat(), 1);
        Check.law(x, "f");
        check.due("19: not by forward", x.flat(), NEVER);
        Check.law(x, "i");
        check.due("19: not by idle", x.flat(), NEVER);
        x.place(0, 0);
        check.due("19: places are no matter", x.flat(), NEVER);
        Check.law(x, "k1(f,b)");
        check.due("19: the next is number 1", x.flat(), 1);
    }

    /** 19: "behind which all TWISTS are 0". */
    private static void flatOfAll() {
        CardLoom x = Check.loom(TWO, "c1(b,f)");
        x.turn(0, 3);
        check.due("19: one of two", x.flat(), NEVER);
        x.turn(1, 2);
        x.turn(1, 2);
        check.due("19: up and down", x.flat(), 2);
        check.due("19: nothing is done", x.told(3), 4);
        x = Check.loom(TEN, "c9(i,f)");
        x.turn(9, 2);
        check.due("19: the tenth alone", x.flat(), 1);
        x = Check.loom(TWO, "c1(k1(f,b),x3(b,h))");
        x.turn(0, 1);
        check.due("19: least of several", x.flat(), 3);
    }

    /** 19: "(0 .. 200)": 200; 201 is too late. */
    private static void flatTo200() {
        int[] due = {200, 199, NEVER};
        String[] laws = {"x67(i,b)", "s1(x67(i,b))", "s66(x67(i,b))"};
        for (int i = 0; i < laws.length; i++) {
            CardLoom x = Check.loom("abcdS", laws[i]);
            x.turn(0, 3);
            x.turn(0, 1);
            check.due("19: " + laws[i], x.flat(), due[i]);
        }
    }

    /** 19: "-5 likewise": if it JAMS ahead of that. */
    private static void flatJams() {
        check.due("19: 98 by back", at98("abcdS", "b").flat(), 98);
        check.due("19: 98 by halves", at98("abcdS", "h").flat(), NEVER);
        CardLoom x = at98(TWO, "c1(h,b)");
        x.unweave(1);
        x.turn(1, 3);
        check.due("19: 98 jams by the 2nd, flat by the 2nd", x.flat(), NEVER);
        Check.law(x, "c1(f,b)");
        check.due("20: the 4th", x.jam(), 4);
        check.due("19: the other is flat by the 2nd, it is not", x.flat(), NEVER);
        x = Check.loom(TWO, "c1(k50(i,f),b)");
        x.turn(0, 2);
        check.due("19: the other one is beyond -99 ahead of it", x.flat(), NEVER);
    }

    /** 20: "the least p (1 .. 200) of which the p-th PICK JAMS". */
    private static void jamAtOnce() {
        check.due("20: 98 by half", at98("abcdS", "h").jam(), 1);
        check.due("20: 98 by forward", at98("abcdS", "f").jam(), 2);
        CardLoom x = at98("abcdS", "f");
        x.weave(1);
        check.due("20: 99 by forward", x.jam(), 1);
        Check.law(x, "h");
        check.due("20: 99 by half", x.jam(), 1);
        Check.law(x, "i");
        check.due("20: 99 by idle", x.jam(), NEVER);
        Check.law(x, "b");
        check.due("20: 99 by back, to -100", x.jam(), 199);
        check.due("20: nothing is done", x.card(0, 6), 199);
    }

    /** 20: "would a TWIST be beyond -99 or 99: it JAMS". */
    private static void jamUpAndDown() {
        check.due("20: up", Check.loom("abcdS", "f").jam(), 100);
        check.due("20: down", Check.loom("abcdS", "b").jam(), 100);
        check.due("20: by halves", Check.loom("abcdS", "h").jam(), 50);
        check.due("20: to 99, then by half", Check.loom("abcdS", "k99(f,h)").jam(), 100);
        check.due("20: to 98, then by half", Check.loom("abcdS", "s1(k99(f,h))").jam(), 99);
        check.due("20: to 97, then by half", Check.loom("abcdS", "s2(k99(f,h))").jam(), 99);
        check.due("20: to -99, then up again", Check.loom("abcdS", "k99(b,f)").jam(), NEVER);
        check.due("20: to 99, then down again", Check.loom("abcdS", "k99(f,b)").jam(), NEVER);
        CardLoom x = Check.loom("abcdS", "b");
        x.weave(50);
        check.due("20: from -50", x.jam(), 50);
        Check.law(x, "f");
        check.due("20: from -50 up", x.jam(), 150);
    }

    /** 20: "(1 .. 200)": 199, 200; 201 is too late. */
    private static void jamTo200() {
        check.due("20: the 199th", Check.loom("abcdS", "k1(f,i)").jam(), 199);
        check.due("20: the 200th", Check.loom("abcdS", "s1(k1(f,i))").jam(), 200);
        CardLoom x = Check.loom("abcdS", "s1(k1(f,i))");
        x.turn(0, 2);
        check.due("20: the 201st", x.jam(), NEVER);
        x.turn(0, 2);
        x.turn(0, 1);
        check.due("20: the 201st, told otherwise", x.jam(), NEVER);
        x.turn(0, 1);
        check.due("20: the 200th, told otherwise", x.jam(), 200);
        check.due("20: never", Check.loom("abcdS", "k1(f,b)").jam(), NEVER);
        check.due("20: never by idle", Check.loom("abcdS", "i").jam(), NEVER);
    }

    /** 20: one CARD that JAMS is enough. */
    private static void jamOfOne() {
        check.due("20: the first", Check.loom(TEN, "c1(h,i)").jam(), 50);
        check.due("20: the tenth", Check.loom(TEN, "c9(i,h)").jam(), 50);
        check.due("20: the least of all", Check.loom(TEN, "c3(f,c5(h,b))").jam(), 50);
        check.due("20: of three", Check.loom(TEN.substring(0, 17), "c9(i,h)").jam(), NEVER);
    }

    /** 18 to 20: "by the LAW from now": the next PICK has the number PICKS. */
    private static void fromNow() {
        CardLoom x = Check.loom("abcdS", "k3(f,b)");
        int[] returns = {6, 4, 2, 6, 4, 2, 6};
        for (int n = 0; n < returns.length; n++) {
            check.due("18: from " + n, x.returns(), returns[n]);
            x.turn(0, 0);
        }
        x = Check.loom("abcdS", "x10(i,h)");
        for (int n = 0; n < 12; n++) {
            check.due("20: from " + n, x.jam(), NEVER);
            check.due("18: from " + n, x.returns(), n % 10 == 0 ? 11 : 1);
            x.turn(0, 0);
        }
        x = Check.loom("abcdS", "k10(f,b)");
        x.turn(0, 1);
        check.due("19: from 1", x.flat(), 19);
        x.unweave(1);
        check.due("19: from 0", x.flat(), 0);
    }

    /** 18 to 20: PICKS that are only thought of weave no ROW. */
    private static void roomIsNoMatter() {
        CardLoom x = Check.loom("abcdS", "k50(f,b)");
        x.weave(50);
        check.due("18: 50 rows", x.returns(), 4);
        check.due("19: 50 rows", x.flat(), 50);
        check.due("20: 50 rows", x.jam(), NEVER);
        check.due("18: 50 rows still", x.told(1), 50);
        check.due("18: the place still", x.card(0, 5), 2);
        check.due("18: the twist still", x.card(0, 6), 150);
    }

    /** 18 to 20: "In mind": nothing is left of what was thought, whatever is asked ahead. */
    private static void againAndAgain() {
        String[] laws = {"b", "k3(f,b)", "h", "i", "x67(f,i)", "c1(k1(f,b),b)"};
        int[][] due = {{4, 1, 101}, {4, 5, NEVER}, {2, NEVER, 50}, {1, NEVER, NEVER}, {4, NEVER, 100}, {4, 1, 101}};
        CardLoom x = Check.loom(TWO, "i");
        x.pack(3, 1);
        for (int i = 0; i < laws.length; i++) {
            Check.law(x, laws[i]);
            for (int asked = 0; asked < 9; asked++) {
                for (int which : new int[] {asked / 3, asked % 3}) {
                    int answer = which == 0 ? x.returns() : which == 1 ? x.flat() : x.jam();
                    check.due(18 + which + ": again, " + laws[i], answer, due[i][which]);
                }
            }
        }
        check.due("18: nothing is done", x.told(1), 1);
        check.due("19: nothing is done", x.told(3), 2);
    }

    /** 21: "NONE: i, what (neither 0 nor 1, by i -1, too)." */
    private static void undoingNone() {
        CardLoom x = Check.loom("abcdS", "f");
        x.weave(2);
        for (int i = -3; i <= 4; i++) {
            for (int what = -2; what <= 3; what++) {
                boolean isWhat = what == 0 || what == 1;
                int due = !isWhat || i < -1 || i >= 2 ? NONE : i == -1 ? 2 : what == 0 ? 1 : 2;
                check.due("21: undoing(" + i + ", " + what + ")", x.undoing(i, what), due);
            }
        }
        for (int what = -1; what <= 2; what++) {
            int due = what == 0 || what == 1 ? 0 : NONE;
            check.due("21: no cards, what " + what, new CardLoom().undoing(-1, what), due);
            check.due("21: nothing twisted, what " + what, Check.loom("abcdS", "i").undoing(-1, what), due);
            check.due("21: no first, what " + what, Check.loom("abcdS", "i").undoing(0, what), NONE);
        }
    }

    /** 21: "till all TWISTS are 0, as few as can be": as many as the greatest above 0 and the greatest below 0. */
    private static void undoingGreatest() {
        CardLoom x = at98(TWO, "c1(f,i)");
        x.weave(1);
        check.due("21: 99", x.undoing(-1, 0), 99);
        check.due("21: the last", x.undoing(98, 0), 1);
        check.due("21: the last is back", x.undoing(98, 1), 2);
        check.due("21: none behind it", x.undoing(99, 0), NONE);
        x = Check.loom(TWO, "c1(i,b)");
        x.weave(50);
        check.due("21: -50", x.undoing(-1, 0), 50);
        check.due("21: the last forward", x.undoing(49, 0), 2);
        check.due("21: is forward", x.undoing(49, 1), 1);
        check.due("21: none behind the 50th", x.undoing(50, 1), NONE);
        x = Check.loom(TWO, "c1(h,b)");
        x.weave(49);
        check.due("21: 98 and 49", x.undoing(-1, 1), 147);
    }

    /** 21: "each the set of CARDS with a TWIST above 0; then those FORWARD, likewise below 0". */
    private static void undoingSets() {
        CardLoom x = Check.loom(TEN, "i");
        x.turn(9, 1);
        x.pack(512 + 4, 3);
        x.pack(256 + 1, 2);
        x.pack(1 + 2, 2);
        int[] sets = {512 + 4, 512 + 4, 512, 256 + 1 + 2, 1};
        int[] turnings = {2, 2, 2, 1, 1};
        check.due("21: five", x.undoing(-1, 0), 5);
        for (int i = 0; i < 5; i++) {
            check.due("21: set " + i, x.undoing(i, 0), sets[i]);
            check.due("21: turning " + i, x.undoing(i, 1), turnings[i]);
        }
        x.place(9, 0);
        check.due("21: places are no matter", x.undoing(2, 0), 512);
        for (int i = 0; i < 5; i++) {
            x.pack(sets[i], turnings[i]);
            check.due("21: as many less", x.undoing(-1, 0), 4 - i);
        }
        check.due("21: nothing twisted", x.told(3), 0);
    }

    /** 21: "first those BACK ... then those FORWARD": with none above 0 the first is FORWARD. */
    private static void undoingFirstAndLast() {
        CardLoom x = Check.loom(TWO, "i");
        x.turn(1, 2);
        check.due("21: forward alone", x.undoing(0, 1), 1);
        check.due("21: its set", x.undoing(0, 0), 2);
        x.turn(0, 1);
        check.due("21: back ahead of it", x.undoing(0, 1), 2);
        check.due("21: its set", x.undoing(0, 0), 1);
        check.due("21: forward behind it", x.undoing(1, 1), 1);
        check.due("21: no third", x.undoing(2, 1), NONE);
    }
}
