/** Promises 37 to 44: each sentence that names an edge of what is told, of LISTS, of THE IMAGE, and a test of it. */
public final class ListEdgesTest {
    private static final Check check = new Check("ListEdgesTest");
    private static final int NONE = CardLoom.NONE, BAD = CardLoom.BAD, NOTHING = -11, BEYOND = -13, BELOW = -14,
        NO_VALUE = -2000000000;
    private static final String TEN = "abcdS;bcdeS;cdefS;defgS;efghS;fghiS;ghijS;hijaS;ijabS;jabcS";

    public static void main(String[] args) {
        toldEach();
        toldGreatest();
        listSizes();
        listInOrder();
        listAnew();
        setEach();
        getEach();
        listsApart();
        layFromEachPlace();
        layBelowZero();
        layNoneAndNothing();
        judgeFromEachPlace();
        judgeBelowZero();
        judgeNoneAndNothing();
        judgeFirst();
        nearTheGreatestInt();
        imageOfNothing();
        imageTheLatest();
        undoMoreThanOnce();
        undoGivesAllBack();
        undoAsManyCards();
        undoFullRows();
        undoLeaves();
        check.end();
    }

    /** 37: "What 0 CARDS, 1 ROWS, 2 PICKS", to "6 bytes of THE TAPE, 7 of THE PAPER. NONE." */
    private static void toldEach() {
        CardLoom x = Check.loom("abcdS;abcdS", "c1(h,b)");
        x.weave(3);
        x.turn(0, 0);
        x.lines(7);
        x.spell();
        Check.feed(x, "xx");
        int[] due = {NONE, 2, 4, 4, 9, 7, 1, 2, 11, NONE};
        for (int what = -1; what <= 8; what++) {
            check.due("37: what " + what, x.told(what), due[what + 1]);
        }
        check.due("37: least", x.told(Integer.MIN_VALUE), NONE);
        check.due("37: greatest", x.told(Integer.MAX_VALUE), NONE);
    }

    /** 37: "3 TWISTS of all without signs", "5 the greatest FLOAT", each as great as it can be. */
    private static void toldGreatest() {
        CardLoom x = Check.loom(TEN, "c5(h,b)");
        x.weave(49);
        check.due("37: twists", x.told(3), 5 * 98 + 5 * 49);
        check.due("37: no float", x.told(5), 0);
        x.turn(9, 1);
        check.due("37: one forward", x.told(3), 5 * 98 + 5 * 49 - 1);
        check.due("37: a float of one", x.told(5), 1);
        check.due("37: rows", x.told(1), 50);
        check.due("37: picks", x.told(2), 50);
        x = Check.loom(TEN, "c1(i,f)");
        x.weave(50);
        check.due("37: the first's float", x.told(5), 50);
        x = Check.loom(TEN, "c9(f,i)");
        x.weave(50);
        check.due("37: the tenth's float", x.told(5), 50);
        x.unweave(50);
        check.due("37: picks taken back", x.told(2), 0);
        check.due("37: no float any more", x.told(5), 0);
    }

    /** 38: "a row of 0 .. 20 ints"; "BAD: n above 20; BELOW"; "BELOW (-14): a size below 0". */
    private static void listSizes() {
        for (int list = 0; list < 4; list++) {
            for (int n = -2; n <= 22; n++) {
                CardLoom x = new CardLoom();
                boolean is = n >= 0 && n <= 20;
                check.due("38: n " + n, x.list(list, n), n < 0 ? BELOW : is ? 1 : BAD);
                check.due("39: place n of " + n, x.set(list, n, 1), is ? BEYOND : NOTHING);
                check.due("39: the last of " + n, x.set(list, n - 1, 1), !is ? NOTHING : n == 0 ? BEYOND : 1);
            }
        }
    }

    /** 38: "NONE: list; BAD: n above 20; BELOW." */
    private static void listInOrder() {
        CardLoom x = new CardLoom();
        for (int list : new int[] {-1, 4, Integer.MIN_VALUE, Integer.MAX_VALUE}) {
            for (int n : new int[] {-1, 0, 20, 21}) {
                check.due("38: list " + list + ", n " + n, x.list(list, n), NONE);
            }
        }
        check.due("38: the greatest n", x.list(3, Integer.MAX_VALUE), BAD);
        check.due("38: the least n", x.list(3, Integer.MIN_VALUE), BELOW);
    }

    /** 38: "A LIST becomes a row of n ints, all 0": the old ones are gone, be it shorter or longer. */
    private static void listAnew() {
        for (int before = 0; before <= 20; before += 5) {
            for (int n = 0; n <= 20; n += 4) {
                CardLoom x = new CardLoom();
                x.list(2, before);
                for (int i = 0; i < before; i++) {
                    x.set(2, i, 7);
                }
                x.list(2, n);
                for (int i = 0; i < 20; i++) {
                    check.due("38: " + i + " of " + n + " behind " + before, x.get(2, i), i < n ? 0 : NO_VALUE);
                }
            }
        }
    }

    /**
     * 39: "Place i of a LIST becomes v: 1. NONE; NOTHING; BEYOND."; "NOTHING (-11): none is held; BEYOND (-13): no such
     * place".
     */
    private static void setEach() {
        CardLoom x = new CardLoom();
        x.list(0, 20);
        x.list(3, 1);
        for (int list = -1; list <= 4; list++) {
            for (int i = -1; i <= 20; i++) {
                int size = list == 0 ? 20 : list == 3 ? 1 : -1;
                int due = list < 0 || list > 3 ? NONE : size < 0 ? NOTHING : i < 0 || i >= size ? BEYOND : 1;
                check.due("39: list " + list + ", place " + i, x.set(list, i, i - 5), due);
                check.due("40: list " + list + ", place " + i, x.get(list, i), due == 1 ? i - 5 : NO_VALUE);
            }
        }
    }

    /** 40: "-2000000000: no such LIST, nothing there, no such place": it may be an int that is there, too. */
    private static void getEach() {
        CardLoom x = new CardLoom();
        check.due("40: nothing there", x.get(1, 0), NO_VALUE);
        x.list(1, 2);
        for (int v : new int[] {Integer.MIN_VALUE, Integer.MAX_VALUE, NO_VALUE, -1, 0, 1}) {
            check.due("39: v " + v, x.set(1, 1, v), 1);
            check.due("40: v " + v, x.get(1, 1), v);
            check.due("40: place 0 stays", x.get(1, 0), 0);
        }
        check.due("40: place 2", x.get(1, 2), NO_VALUE);
        check.due("40: place -1", x.get(1, -1), NO_VALUE);
        check.due("40: list 4", x.get(4, 0), NO_VALUE);
        check.due("40: list -1", x.get(-1, 0), NO_VALUE);
    }

    /** 38: "LISTS 0 .. 3 hold nothing (at first)": four, and what is done to one is done to no other. */
    private static void listsApart() {
        CardLoom x = new CardLoom();
        for (int list = 0; list < 4; list++) {
            check.due("39: nothing at first in " + list, x.set(list, 0, 1), NOTHING);
            x.list(list, 20);
            x.set(list, 0, 100 + list);
            x.set(list, 19, 200 + list);
        }
        for (int list = 0; list < 4; list++) {
            check.due("40: first of " + list, x.get(list, 0), 100 + list);
            check.due("40: last of " + list, x.get(list, 19), 200 + list);
        }
        x.list(1, 20);
        check.due("40: last of 0", x.get(0, 19), 200);
        check.due("40: first of 2", x.get(2, 0), 102);
    }

    /** 41: "until a place isn't there"; "BEYOND: not all were (those that had a place are there all the same". */
    private static void layFromEachPlace() {
        for (int size = 0; size <= 20; size += 4) {
            for (int i = 0; i <= 21; i++) {
                CardLoom x = Check.loom("bcdaS;cdabS;dabcS;jjjjS", "i");
                x.weave(1);
                x.list(2, size);
                check.due("41: from " + i + " of " + size, x.lay(2, i, 0), i + 4 <= size ? 4 : BEYOND);
                int[] fronts = {1, 2, 3, 9};
                for (int at = 0; at < size; at++) {
                    boolean laid = at >= i && at < i + 4;
                    check.due("41: " + at + " from " + i + " of " + size, x.get(2, at), laid ? fronts[at - i] : 0);
                }
            }
        }
        CardLoom x = Check.loom(TEN, "i");
        x.weave(1);
        x.list(0, 10);
        check.due("41: ten", x.lay(0, 0, 0), 10);
        check.due("41: the tenth", x.get(0, 9), 9);
    }

    /** 41: "none, if i is below 0": none, though there would be places for those behind. */
    private static void layBelowZero() {
        for (int i : new int[] {-1, -2, -9, Integer.MIN_VALUE}) {
            CardLoom x = Check.loom(TEN, "i");
            x.weave(1);
            x.list(0, 20);
            check.due("41: from " + i, x.lay(0, i, 0), BEYOND);
            for (int at = 0; at < 20; at++) {
                check.due("41: none is laid from " + i, x.get(0, at), 0);
            }
        }
    }

    /** 41: "NONE: list, row; NOTHING; BEYOND". */
    private static void layNoneAndNothing() {
        CardLoom x = Check.loom("bbbbS", "i");
        check.due("41: no row ahead of NOTHING", x.lay(0, 0, 0), NONE);
        x.weave(2);
        x.list(1, 0);
        for (int list = -1; list <= 4; list++) {
            for (int row = -1; row <= 2; row++) {
                boolean is = list >= 0 && list < 4 && row >= 0 && row < 2;
                int due = !is ? NONE : list == 1 ? BEYOND : NOTHING;
                check.due("41: list " + list + ", row " + row, x.lay(list, 0, row), due);
                check.due("41: below 0, list " + list, x.lay(list, -1, row), due);
            }
        }
    }

    /** 42: "100 and how many were looked at, if the LIST ends ahead of that". */
    private static void judgeFromEachPlace() {
        for (int size = 0; size <= 20; size += 4) {
            CardLoom x = Check.loom("bbbbS;bbbbS;bbbbS;bbbbS", "i");
            x.weave(1);
            x.list(3, size);
            for (int i = 0; i < size; i++) {
                x.set(3, i, 1);
            }
            for (int i = 0; i <= 22; i++) {
                int due = i + 4 <= size ? -5 : 100 + Math.max(0, size - i);
                check.due("42: from " + i + " of " + size, x.judge(3, i, 0), due);
            }
        }
        CardLoom x = Check.loom(TEN, "i");
        x.weave(1);
        x.list(0, 10);
        x.lay(0, 0, 0);
        check.due("42: all ten", x.judge(0, 0, 0), -5);
        x.set(0, 9, 0);
        check.due("42: the tenth", x.judge(0, 0, 0), 9);
        x.list(0, 9);
        x.lay(0, 0, 0);
        check.due("42: ends behind nine", x.judge(0, 0, 0), 109);
    }

    /** 42: "(or the place is below 0)": 100, none was looked at. */
    private static void judgeBelowZero() {
        CardLoom x = Check.loom("aaaaS;aaaaS", "i");
        x.weave(1);
        x.list(0, 20);
        for (int i : new int[] {-1, -2, -20, Integer.MIN_VALUE}) {
            check.due("42: from " + i, x.judge(0, i, 0), 100);
        }
        check.due("42: from 0", x.judge(0, 0, 0), -5);
    }

    /** 42: "NONE likewise; NOTHING." */
    private static void judgeNoneAndNothing() {
        CardLoom x = Check.loom("bbbbS", "i");
        check.due("42: no row ahead of NOTHING", x.judge(0, 0, 0), NONE);
        x.weave(2);
        x.list(1, 0);
        for (int list = -1; list <= 4; list++) {
            for (int row = -1; row <= 2; row++) {
                boolean is = list >= 0 && list < 4 && row >= 0 && row < 2;
                int due = !is ? NONE : list == 1 ? 100 : NOTHING;
                check.due("42: list " + list + ", row " + row, x.judge(list, 0, row), due);
                check.due("42: below 0, list " + list, x.judge(list, -1, row), due);
            }
        }
    }

    /** 42: "the first CARD of a ROW whose FRONT is not what the LIST has there, from a place on; -5: none". */
    private static void judgeFirst() {
        CardLoom x = Check.loom("aaaaS;bbbbS;ccccS", "i");
        x.weave(1);
        x.list(0, 2);
        check.due("42: the second is not", x.judge(0, 0, 0), 1);
        x.set(0, 1, 1);
        check.due("42: it ends behind two", x.judge(0, 0, 0), 102);
        x.set(0, 0, 5);
        check.due("42: the first is not", x.judge(0, 0, 0), 0);
        x.set(0, 0, Integer.MIN_VALUE);
        check.due("42: any int", x.judge(0, 0, 0), 0);
    }

    /** 39 to 42: a place near the greatest int does not go round to one that is there. */
    private static void nearTheGreatestInt() {
        CardLoom x = Check.loom(TEN, "i");
        x.weave(1);
        x.list(0, 20);
        for (int less = 0; less < 12; less++) {
            int i = Integer.MAX_VALUE - less;
            check.due("39: from " + i, x.set(0, i, 1), BEYOND);
            check.due("40: from " + i, x.get(0, i), NO_VALUE);
            check.due("41: from " + i, x.lay(0, i, 0), BEYOND);
            check.due("42: from " + i, x.judge(0, i, 0), 100);
            check.due("27: from " + i, x.matches(i), NONE);
        }
        for (int at = 0; at < 20; at++) {
            check.due("41: nothing is laid", x.get(0, at), 0);
        }
    }

    /** 44: "STATE: there is none."; 43: "how many ROWS there are". */
    private static void imageOfNothing() {
        CardLoom x = new CardLoom();
        check.due("44: none", x.undo(), CardLoom.STATE);
        check.due("43: no rows", x.image(), 0);
        check.due("44: no rows", x.undo(), 0);
        check.due("44: no cards", x.told(0), 0);
        Check.thread(x, TEN);
        Check.law(x, "h");
        x.weave(9);
        check.due("44: no rows again", x.undo(), 0);
        check.due("44: no cards again", x.told(0), 0);
        check.due("6: no card", x.card(0, 0), NONE);
        check.due("14: no row", x.front(0, 0), NONE);
        check.due("37: no twists", x.told(3), 0);
        check.due("12: no cards", x.weave(1), CardLoom.STATE);
        Check.thread(x, "abcdS");
        check.same("44: the law was idle", Check.next(x), "0");
    }

    /** 43: "THE IMAGE is taken": the one before is gone. */
    private static void imageTheLatest() {
        CardLoom x = Check.loom("abcdS", "f");
        x.weave(50);
        check.due("43: fifty", x.image(), 50);
        x.unweave(20);
        check.due("43: thirty", x.image(), 30);
        x.weave(20);
        check.due("44: thirty", x.undo(), 30);
        check.due("44: thirty rows", x.told(1), 30);
        check.due("44: thirty picks", x.told(2), 30);
    }

    /** 44: THE IMAGE stays: what is done behind undo() is not done to it. */
    private static void undoMoreThanOnce() {
        CardLoom x = Check.loom("abcdS", "f");
        x.weave(3);
        x.image();
        for (int i = 0; i < 4; i++) {
            check.due("44: three", x.undo(), 3);
            check.due("44: place", x.card(0, 5), 3);
            check.due("44: slant", x.slant(0), 1);
            check.due("44: colour", x.recolour(0, 0, 9), 0);
            check.due("44: place, again", x.place(0, 2), 3);
            check.due("44: the law", x.card(0, 8), 1);
            Check.law(x, "h");
            check.due("44: room", x.weave(5), 5);
            check.due("44: all rows", x.unweave(6 + i), 6 + Math.min(i, 2));
        }
    }

    /** 44: "All is as THE IMAGE": "CARDS, ROWS, PICKS, the LAW". */
    private static void undoGivesAllBack() {
        CardLoom x = Check.loom("abcdS;dcbaZ", "k2(f,b)");
        x.weave(3);
        x.slant(1);
        x.place(0, 2);
        x.recolour(1, 0, 8);
        x.image();
        Check.thread(x, TEN);
        Check.law(x, "b");
        x.weave(50);
        check.due("44: three", x.undo(), 3);
        CardLoom y = Check.loom("abcdS;dcbaZ", "k2(f,b)");
        y.weave(3);
        y.slant(1);
        y.place(0, 2);
        y.recolour(1, 0, 8);
        y.image();
        check.same("44: all is as it was", Stand.of(x), Stand.of(y));
    }

    /** 44: as many CARDS as there were, be they fewer or more than now: ROWS have no others. */
    private static void undoAsManyCards() {
        for (int was : new int[] {1, 2, 10}) {
            for (int now : new int[] {1, 3, 10}) {
                CardLoom x = Check.loom(TEN.substring(0, 6 * was - 1), "i");
                x.weave(2);
                x.image();
                Check.thread(x, TEN.substring(0, 6 * now - 1));
                x.weave(5);
                check.due("44: two rows", x.undo(), 2);
                check.due("44: cards", x.told(0), was);
                check.due("6: the last", x.card(was - 1, 0), was - 1);
                check.due("6: none behind it", x.card(was, 0), NONE);
                check.due("14: the last", x.front(1, was - 1), was - 1);
                check.due("14: none behind it", x.front(1, was), NONE);
                check.due("29: mirrors", x.mirrors(), was == 1 ? 2 : 0);
                check.due("33: alike", x.alike(0, 1), was);
                check.due("31: fronts of the last colour", x.colours(was - 1, 0), 2);
                check.due("31: of the next one", x.colours(was, 0), was == 10 ? BAD : 0);
                x.list(0, 20);
                check.due("41: all of them", x.lay(0, 0, 1), was);
                check.due("35: spelled", x.spell(), 6 * was - 1);
                x.lines(1);
                check.due("24: none behind it", x.draft(0, was), NONE);
                check.due("8: none behind it", x.place(was, 0), NONE);
                check.due("11: all of them", x.pack((1 << was) - 1, 1), 3);
                check.due("37: twists of all", x.told(3), was);
                check.due("21: the set of all", x.undoing(0, 0), (1 << was) - 1);
            }
        }
    }

    /** 44: all 50 ROWS of ten CARDS. */
    private static void undoFullRows() {
        CardLoom x = Check.loom(TEN, "d(k3(f,b))");
        x.weave(50);
        x.image();
        Check.thread(x, TEN.replace('S', 'Z').replace('a', 'b'));
        Check.law(x, "h");
        x.weave(50);
        check.due("44: fifty", x.undo(), 50);
        int[] more = {0, 1, 2, 3, 2, 1, 0};
        for (int row : new int[] {0, 3, 4, 24, 48, 49}) {
            for (int c = 0; c < 10; c++) {
                boolean isForward = (row + c) / 3 % 2 == 0;
                int turned = more[(row + c + 1) % 6] - more[c % 6];
                String at = " (" + row + ", " + c + ")";
                check.due("44: front" + at, x.front(row, c), (c + Math.floorMod(turned, 4)) % 10);
                check.due("44: back" + at, x.back(row, c), (c + Math.floorMod(turned + 2, 4)) % 10);
                check.due("44: lean" + at, x.lean(row, c), isForward ? 1 : 2);
                check.due("44: turning" + at, x.turning(row, c), isForward ? 1 : 2);
            }
        }
    }

    /** 44: "(the PICTURE, THE TAPE, THE PAPER, LISTS stay by undo())". */
    private static void undoLeaves() {
        CardLoom x = Check.loom("abcdS", "f");
        x.image();
        x.lines(8);
        x.paint(7, 9, 4);
        Check.feed(x, "jjjjZ");
        x.spell();
        x.list(3, 20);
        x.set(3, 19, 5);
        x.undo();
        check.due("44: lines", x.told(4), 8);
        check.due("44: the picture", x.paint(7, 9, 0), 4);
        check.due("44: the tape", x.told(6), 5);
        check.same("44: the paper", Check.paper(x), "abcdS");
        check.due("44: lists", x.get(3, 19), 5);
        check.due("44: the tape's bytes", x.thread(), 1);
        check.due("44: they are read", x.card(0, 0), 9);
        x.undo();
        check.due("44: the tape stays empty", x.told(6), 0);
    }
}
