/** All that the calls tell of a loom, as a text: two looms that stand alike have the same. */
final class Stand {
    private static final int MANY_ROWS = 10;

    private final CardLoom x;
    private final StringBuilder text = new StringBuilder();

    private Stand(CardLoom x) {
        this.x = x;
    }

    /** The last to be asked of a loom: it eats THE TAPE and goes back to THE IMAGE. */
    static String of(CardLoom x) {
        Stand stand = new Stand(x);
        stand.numbers();
        stand.warp();
        stand.picture();
        stand.lists();
        stand.text.append(" paper ").append(Check.paper(x));
        stand.tape();
        stand.put("undo", x.undo());
        stand.put("rows", x.told(1));
        stand.warp();
        return stand.text.toString();
    }

    private void put(String name, int value) {
        text.append(' ').append(name).append(' ').append(value);
    }

    private void numbers() {
        for (int what = 0; what < 8; what++) {
            put("told", x.told(what));
        }
    }

    private void warp() {
        int cards = x.told(0);
        int rows = x.told(1);
        for (int c = 0; c < cards; c++) {
            for (int what = 0; what < 9; what++) {
                put("card", x.card(c, what));
            }
        }
        for (int row = 0; row < rows; row++) {
            for (int c = 0; c < cards; c++) {
                put("front", x.front(row, c));
                if (rows < MANY_ROWS) {
                    put("back", x.back(row, c));
                    put("lean", x.lean(row, c));
                    put("turning", x.turning(row, c));
                }
            }
        }
        put("beside", x.front(0, cards));
        put("behind", x.front(rows, 0));
        put("period", x.period());
        put("mirrors", x.mirrors());
        put("alike", x.alike(0, 1));
        put("faces", x.faces(0));
        put("fronts", x.colours(1, 0));
        put("backs", x.colours(1, 1));
        put("holes", x.colours(1, 2));
    }

    /** What a place was is told only by painting it. */
    private void picture() {
        for (int line = 0; line < x.told(4); line++) {
            for (int c = 0; c < 10; c++) {
                put("painted", x.paint(line, c, 0));
            }
        }
    }

    private void lists() {
        for (int list = 0; list < 4; list++) {
            put("list", x.set(list, -1, 0));
            for (int i = 0; x.get(list, i) != -2000000000; i++) {
                put("is", x.get(list, i));
            }
        }
    }

    /** What is on THE TAPE is told only by reading it: a ')' makes the tapes of these tests LAWS. */
    private void tape() {
        put("feed", x.feed(')'));
        put("law", x.law());
        text.append(" next ").append(Check.next(x));
    }
}
