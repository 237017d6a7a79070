/** Promises 6 to 9: card, slant, place, recolour. */
public final class CardsTest {
    private static final Check check = new Check("CardsTest");

    public static void main(String[] args) {
        card();
        floats();
        slant();
        place();
        recolour();
        check.end();
    }

    private static void card() {
        CardLoom x = Check.loom("abcdS;jihgZ", "c1(f,h)");
        int[] first = {0, 1, 2, 3, 0, 0, 100, 0, 1};
        int[] second = {9, 8, 7, 6, 1, 0, 100, 0, 3};
        for (int what = 0; what < 9; what++) {
            check.due("6: card(0, " + what + ")", x.card(0, what), first[what]);
            check.due("6: card(1, " + what + ")", x.card(1, what), second[what]);
        }
        check.due("6: what -1", x.card(0, -1), CardLoom.NONE);
        check.due("6: what 9", x.card(0, 9), CardLoom.NONE);
        check.due("6: card -1", x.card(-1, 0), CardLoom.NONE);
        check.due("6: card 2", x.card(2, 0), CardLoom.NONE);
        check.due("6: greatest card", x.card(Integer.MAX_VALUE, 0), CardLoom.NONE);
        x.weave(3);
        check.due("6: place by forward", x.card(0, 5), 3);
        check.due("6: place by half", x.card(1, 5), 2);
        check.due("6: twist by forward", x.card(0, 6), 103);
        check.due("6: twist by half", x.card(1, 6), 106);
        Check.law(x, "b");
        x.weave(10);
        check.due("6: place by back", x.card(0, 5), 1);
        check.due("6: twist by back", x.card(0, 6), 93);
    }

    private static void floats() {
        CardLoom x = Check.loom("abcdS;abcdS", "i");
        x.weave(2);
        x.turn(0, 1);
        x.weave(3);
        check.due("6: float at the end", x.card(0, 7), 3);
        check.due("6: float of all", x.card(1, 7), 6);
        x.turn(1, 3);
        x.turn(0, 2);
        check.due("6: a float that is over", x.card(0, 7), 4);
        check.due("6: the greatest stays", x.card(1, 7), 6);
        x.unweave(3);
        check.due("6: float of what is left", x.card(0, 7), 2);
    }

    private static void slant() {
        CardLoom x = Check.loom("abcdS;abcdZ", "f");
        check.due("7: S to Z", x.slant(0), 1);
        check.due("7: Z to S", x.slant(1), 0);
        check.due("7: is kept", x.card(0, 4), 1);
        check.due("7: and back", x.slant(0), 0);
        check.due("7: card 2", x.slant(2), CardLoom.NONE);
        check.due("7: card -1", x.slant(-1), CardLoom.NONE);
        x.weave(1);
        check.due("7: lean of S", x.lean(0, 1), 1);
        x.slant(1);
        check.due("7: rows stay", x.lean(0, 1), 1);
        x.weave(1);
        check.due("7: lean of Z", x.lean(1, 1), 2);
    }

    private static void place() {
        CardLoom x = Check.loom("abcdS;abcdZ", "f");
        x.weave(3);
        check.due("8: was 3", x.place(0, 1), 3);
        check.due("8: was 1", x.place(0, 0), 1);
        check.due("8: was 0", x.place(0, 3), 0);
        check.due("8: is 3", x.card(0, 5), 3);
        check.due("8: twist stays", x.card(0, 6), 103);
        check.due("8: the other stays", x.card(1, 5), 3);
        check.due("8: place 4", x.place(0, 4), CardLoom.BAD);
        check.due("8: place -1", x.place(0, -1), CardLoom.BAD);
        check.due("8: card 2", x.place(2, 9), CardLoom.NONE);
        check.due("8: card -1", x.place(-1, 0), CardLoom.NONE);
        check.due("8: nothing is changed", x.card(0, 5), 3);
        x.weave(1);
        check.due("8: woven from there", x.front(3, 0), 0);
    }

    private static void recolour() {
        CardLoom x = Check.loom("abcdS;abcdZ", "i");
        x.weave(1);
        check.due("9: was a", x.recolour(0, 0, 9), 0);
        check.due("9: was j", x.recolour(0, 0, 5), 9);
        check.due("9: was d", x.recolour(1, 3, 0), 3);
        check.due("9: is f", x.card(0, 0), 5);
        check.due("9: rows stay", x.front(0, 0), 0);
        x.weave(1);
        check.due("9: the next row has it", x.front(1, 0), 5);
        check.due("9: card", x.recolour(2, 0, 99), CardLoom.NONE);
        check.due("9: hole 4 ahead of BAD", x.recolour(0, 4, 99), CardLoom.NONE);
        check.due("9: hole -1", x.recolour(0, -1, 0), CardLoom.NONE);
        check.due("9: colour 10", x.recolour(0, 0, 10), CardLoom.BAD);
        check.due("9: colour -1", x.recolour(0, 0, -1), CardLoom.BAD);
        check.due("9: nothing is changed", x.card(0, 0), 5);
    }
}
