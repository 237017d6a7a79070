/** Promises 38 to 42: list, set, get, lay, judge. */
public final class ListsTest {
    private static final Check check = new Check("ListsTest");
    private static final int NOTHING = -11, BEYOND = -13, BELOW = -14, NO_VALUE = -2000000000;

    public static void main(String[] args) {
        list();
        setAndGet();
        lay();
        judge();
        check.end();
    }

    private static void list() {
        CardLoom x = new CardLoom();
        check.due("38: list 4", x.list(4, 21), CardLoom.NONE);
        check.due("38: list -1", x.list(-1, -1), CardLoom.NONE);
        check.due("38: 21", x.list(3, 21), CardLoom.BAD);
        check.due("38: greatest", x.list(3, Integer.MAX_VALUE), CardLoom.BAD);
        check.due("38: -1", x.list(3, -1), BELOW);
        check.due("38: nothing is changed", x.set(3, 0, 0), NOTHING);
        check.due("38: 20", x.list(3, 20), 1);
        check.due("38: the last", x.set(3, 19, 8), 1);
        check.due("38: a row of none", x.list(0, 0), 1);
        check.due("38: it is held", x.set(0, 0, 0), BEYOND);
        check.due("38: -1 then", x.list(3, -1), BELOW);
        check.due("38: it stays", x.get(3, 19), 8);
        check.due("38: anew", x.list(3, 5), 1);
        check.due("38: shorter", x.get(3, 5), NO_VALUE);
        check.due("38: longer", x.list(3, 20), 1);
        check.due("38: all 0", x.get(3, 19), 0);
        x.set(3, 0, 6);
        x.set(3, 1, 6);
        x.list(3, 2);
        check.due("38: the first is 0", x.get(3, 0), 0);
        check.due("38: the second is 0", x.get(3, 1), 0);
    }

    private static void setAndGet() {
        CardLoom x = new CardLoom();
        x.list(1, 3);
        x.list(2, 20);
        check.due("40: 0 at first", x.get(1, 2), 0);
        check.due("39: set", x.set(1, 2, Integer.MAX_VALUE), 1);
        check.due("39: set", x.set(1, 0, Integer.MIN_VALUE), 1);
        check.due("40: get", x.get(1, 2), Integer.MAX_VALUE);
        check.due("40: get", x.get(1, 0), Integer.MIN_VALUE);
        check.due("40: between", x.get(1, 1), 0);
        check.due("40: the next list", x.get(2, 0), 0);
        check.due("39: place 3", x.set(1, 3, 1), BEYOND);
        check.due("39: place -1", x.set(1, -1, 1), BEYOND);
        check.due("39: nothing held", x.set(0, 0, 1), NOTHING);
        check.due("39: nothing held, no place", x.set(0, -1, 1), NOTHING);
        check.due("39: list 4", x.set(4, 0, 1), CardLoom.NONE);
        check.due("39: list -1", x.set(-1, 0, 1), CardLoom.NONE);
        check.due("40: place 3", x.get(1, 3), NO_VALUE);
        check.due("40: place -1", x.get(1, -1), NO_VALUE);
        check.due("40: nothing held", x.get(0, 0), NO_VALUE);
        check.due("40: list 4", x.get(4, 0), NO_VALUE);
        check.due("40: list -1", x.get(-1, 0), NO_VALUE);
    }

    private static void lay() {
        CardLoom x = Check.loom("abcdS;efghS;ijabS", "f");
        x.list(0, 5);
        check.due("41: no rows", x.lay(0, 0, 0), CardLoom.NONE);
        x.weave(2);
        check.due("41: three", x.lay(0, 1, 0), 3);
        same("41: from 1", x, 5, 0, 1, 5, 9, 0);
        check.due("41: to the end", x.lay(0, 2, 1), 3);
        same("41: from 2", x, 5, 0, 1, 2, 6, 0);
        check.due("41: not all", x.lay(0, 4, 1), BEYOND);
        same("41: from 4", x, 5, 0, 1, 2, 6, 2);
        check.due("41: one is missing", x.lay(0, 3, 0), BEYOND);
        same("41: from 3", x, 5, 0, 1, 2, 1, 5);
        check.due("41: none has a place", x.lay(0, 5, 1), BEYOND);
        check.due("41: below 0", x.lay(0, -1, 1), BEYOND);
        check.due("41: greatest", x.lay(0, Integer.MAX_VALUE, 1), BEYOND);
        check.due("41: least", x.lay(0, Integer.MIN_VALUE, 1), BEYOND);
        same("41: as it was", x, 5, 0, 1, 2, 1, 5);
        check.due("41: nothing held", x.lay(1, 0, 0), NOTHING);
        check.due("41: row 2", x.lay(1, 0, 2), CardLoom.NONE);
        check.due("41: row -1", x.lay(0, 0, -1), CardLoom.NONE);
        check.due("41: list 4", x.lay(4, 0, 0), CardLoom.NONE);
        check.due("41: list -1", x.lay(-1, 0, 0), CardLoom.NONE);
        x.list(2, 0);
        check.due("41: a row of none", x.lay(2, 0, 0), BEYOND);
    }

    private static void same(String what, CardLoom x, int n, int... want) {
        for (int i = 0; i < n; i++) {
            check.due(what + ", place " + i, x.get(0, i), want[i]);
        }
    }

    private static void judge() {
        CardLoom x = Check.loom("abcdS;efghS;ijabS", "f");
        x.list(0, 5);
        check.due("42: no rows", x.judge(0, 0, 0), CardLoom.NONE);
        x.weave(2);
        x.lay(0, 1, 0);
        check.due("42: none", x.judge(0, 1, 0), -5);
        check.due("42: the first", x.judge(0, 0, 0), 0);
        x.set(0, 2, -7);
        check.due("42: the second", x.judge(0, 1, 0), 1);
        x.set(0, 2, 5);
        x.set(0, 3, 0);
        check.due("42: the third", x.judge(0, 1, 0), 2);
        x.set(0, 3, 9);
        x.lay(0, 2, 1);
        check.due("42: none to the end", x.judge(0, 2, 1), -5);
        x.lay(0, 3, 1);
        check.due("42: it ends behind two", x.judge(0, 3, 1), 102);
        x.set(0, 4, 0);
        check.due("42: differs ahead of the end", x.judge(0, 3, 1), 1);
        check.due("42: at the end", x.judge(0, 5, 1), 100);
        check.due("42: below 0", x.judge(0, -1, 1), 100);
        check.due("42: greatest", x.judge(0, Integer.MAX_VALUE, 1), 100);
        check.due("42: least", x.judge(0, Integer.MIN_VALUE, 1), 100);
        check.due("42: nothing held", x.judge(1, 0, 1), NOTHING);
        check.due("42: nothing held, below 0", x.judge(1, -1, 1), NOTHING);
        check.due("42: row 2", x.judge(1, 0, 2), CardLoom.NONE);
        check.due("42: row -1", x.judge(0, 0, -1), CardLoom.NONE);
        check.due("42: list 4", x.judge(4, 0, 0), CardLoom.NONE);
        check.due("42: list -1", x.judge(-1, 0, 0), CardLoom.NONE);
        x.list(2, 0);
        check.due("42: a row of none", x.judge(2, 0, 0), 100);
    }
}
