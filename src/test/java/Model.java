import java.util.ArrayList;
import java.util.Arrays;
import java.util.List;

/**
 * The document once more, in another way: texts are looked through with a stack, LAWS are functions, ROWS are copies,
 * what is in mind is done on a copy, the DRAFT is found by trying all. Slow and plain; ModelTest compares.
 */
public final class Model {
    private interface Function {
        int of(int card, int pick, int cards);
    }

    private static final class Warp implements Cloneable {
        List<int[]> cards = new ArrayList<>(); // four colours, slant, place, twist
        List<int[][]> rows = new ArrayList<>(); // for each card front, back, turning, lean
        int picks = 0;
        Function function = (card, pick, cards) -> 0;

        Warp copy() {
            Warp other = new Warp();
            for (int[] card : cards) {
                other.cards.add(card.clone());
            }
            other.rows.addAll(rows);
            other.picks = picks;
            other.function = function;
            return other;
        }

        int[] lawful() {
            int[] turnings = new int[cards.size()];
            for (int c = 0; c < turnings.length; c++) {
                turnings[c] = function.of(c, picks, turnings.length);
            }
            return turnings;
        }

        boolean pick(int[] turnings) {
            int[] twist = {0, 1, -1, 2};
            int[] step = {0, 1, 3, 2};
            for (int c = 0; c < turnings.length; c++) {
                int twisted = cards.get(c)[6] + twist[turnings[c]];
                if (twisted > 99 || twisted < -99) {
                    return false;
                }
            }
            int[][] row = new int[turnings.length][];
            for (int c = 0; c < turnings.length; c++) {
                int[] card = cards.get(c);
                int turning = turnings[c];
                card[6] += twist[turning];
                card[5] = (card[5] + step[turning]) % 4;
                int lean = new int[][] {{0, 1, 2, 3}, {0, 2, 1, 3}}[card[4]][turning];
                row[c] = new int[] {card[card[5]], card[(card[5] + 2) % 4], turning, lean};
            }
            rows.add(row);
            picks++;
            return true;
        }
    }

    private Warp warp = new Warp();
    private Warp image = null;
    private String tape = "";
    private String paper = "";
    private int[][] picture = new int[0][];
    private final int[][] lists = new int[4][];

    public int feed(int letter) {
        if (letter < 1 || letter > 127) {
            return -2;
        }
        if (tape.length() == 80) {
            return -4;
        }
        tape += (char) letter;
        return tape.length();
    }

    public int clear() {
        int had = tape.length();
        tape = "";
        return had;
    }

    public int thread() {
        String text = tape;
        tape = "";
        String form = "....!;".repeat(10).substring(0, 59);
        for (int at = 0; at <= text.length(); at++) {
            if (at == text.length()) {
                if (at % 6 != 5) {
                    return -100 - at;
                }
                break;
            }
            String allowed = at >= 59 ? "" : form.charAt(at) == '.' ? "abcdefghij" : form.charAt(at) == '!' ? "SZ" : ";";
            if (allowed.indexOf(text.charAt(at)) < 0) {
                return -100 - at;
            }
        }
        Function function = warp.function;
        warp = new Warp();
        warp.function = function;
        for (String part : text.split(";")) {
            int[] card = new int[7];
            for (int hole = 0; hole < 4; hole++) {
                card[hole] = part.charAt(hole) - 'a';
            }
            card[4] = part.charAt(4) == 'Z' ? 1 : 0;
            warp.cards.add(card);
        }
        return warp.cards.size();
    }

    /** The least FAULT, with a stack of what is still to come: L a law, F the figures of a number, others themselves. */
    static int faultOf(String text) {
        StringBuilder due = new StringBuilder("L");
        int open = 0;
        int at = 0;
        while (due.length() > 0) {
            char next = due.charAt(due.length() - 1);
            due.setLength(due.length() - 1);
            char is = at < text.length() ? text.charAt(at) : 0;
            if (next == 'F' || next == 'G') {
                int end = at;
                while (end < text.length() && end < at + 2 && Character.isDigit(text.charAt(end))) {
                    end++;
                }
                if (end == at || next == 'G' && Integer.parseInt(text.substring(at, end)) == 0) {
                    return at;
                }
                at = end;
                continue;
            }
            if (next == 'L') {
                if (open == 6 && "ifbh".indexOf(is) < 0) {
                    return at;
                }
                switch (is) {
                    case 'i', 'f', 'b', 'h' -> { }
                    case 'k', 'x' -> due.append(")L,L(G");
                    case 'c' -> due.append(")L,L(F");
                    case 's' -> due.append(")L(F");
                    case 'd', 'r', 'm' -> due.append(")L(");
                    case 't' -> due.append(")L,L(");
                    default -> {
                        return at;
                    }
                }
            } else if (is != next) {
                return at;
            }
            open += is == '(' ? 1 : is == ')' ? -1 : 0;
            at++;
        }
        return at < text.length() ? at : -1;
    }

    private static Function functionOf(String text) {
        if (text.length() == 1) {
            int turning = "ifbh".indexOf(text);
            return (card, pick, cards) -> turning;
        }
        int start = text.indexOf('(');
        String figures = text.substring(1, start);
        int number = figures.isEmpty() ? 0 : Integer.parseInt(figures);
        List<Function> parts = new ArrayList<>();
        int open = 0;
        int from = start + 1;
        for (int at = from; at < text.length(); at++) {
            char is = text.charAt(at);
            if (open == 0 && (is == ',' || is == ')')) {
                parts.add(functionOf(text.substring(from, at)));
                from = at + 1;
            }
            open += is == '(' ? 1 : is == ')' ? -1 : 0;
        }
        Function one = parts.get(0);
        Function two = parts.size() > 1 ? parts.get(1) : null;
        return switch (text.charAt(0)) {
            case 'k' -> (card, pick, cards) -> (pick / number % 2 == 0 ? one : two).of(card, pick, cards);
            case 'c' -> (card, pick, cards) -> (card < number ? one : two).of(card, pick, cards);
            case 'x' -> (card, pick, cards) -> (pick % number == 0 ? two : one).of(card, pick, cards);
            case 's' -> (card, pick, cards) -> one.of(card, pick + number, cards);
            case 'd' -> (card, pick, cards) -> one.of(card, pick + card, cards);
            case 'r' -> (card, pick, cards) -> new int[] {0, 2, 1, 3}[one.of(card, pick, cards)];
            case 'm' -> (card, pick, cards) -> one.of(cards - card - 1, pick, cards);
            default -> (card, pick, cards) -> one.of(card, pick, cards) == 0
                ? two.of(card, pick, cards) : one.of(card, pick, cards);
        };
    }

    public int law() {
        String text = tape;
        tape = "";
        int fault = faultOf(text);
        if (fault >= 0) {
            return -100 - fault;
        }
        warp.function = functionOf(text);
        return text.replaceAll("[^ifbh]", "").length();
    }

    private boolean isCard(int card) {
        return card >= 0 && card < warp.cards.size();
    }

    private boolean isRow(int row) {
        return row >= 0 && row < warp.rows.size();
    }

    /** The longest part of a text made of one sign alone. */
    private static int longest(String text, char sign) {
        int most = 0;
        while (text.contains(String.valueOf(sign).repeat(most + 1))) {
            most++;
        }
        return most;
    }

    private String column(int card, int what) {
        StringBuilder text = new StringBuilder();
        for (int[][] row : warp.rows) {
            text.append(row[card][what]);
        }
        return text.toString();
    }

    private String fronts(int row) {
        StringBuilder text = new StringBuilder();
        for (int[] cell : warp.rows.get(row)) {
            text.append(cell[0]);
        }
        return text.toString();
    }

    public int card(int card, int what) {
        if (!isCard(card) || what < 0 || what > 8) {
            return -1;
        }
        if (what < 7) {
            return warp.cards.get(card)[what] + (what == 6 ? 100 : 0);
        }
        return what == 7 ? longest(column(card, 2), '0') : warp.lawful()[card];
    }

    public int slant(int card) {
        return isCard(card) ? warp.cards.get(card)[4] ^= 1 : -1;
    }

    public int place(int card, int place) {
        if (!isCard(card)) {
            return -1;
        }
        if (place < 0 || place > 3) {
            return -2;
        }
        int was = warp.cards.get(card)[5];
        warp.cards.get(card)[5] = place;
        return was;
    }

    public int recolour(int card, int hole, int colour) {
        if (!isCard(card) || hole < 0 || hole > 3) {
            return -1;
        }
        if (colour < 0 || colour > 9) {
            return -2;
        }
        int was = warp.cards.get(card)[hole];
        warp.cards.get(card)[hole] = colour;
        return was;
    }

    public int turn(int card, int turning) {
        return isCard(card) ? pack(1 << card, turning) : -1;
    }

    public int pack(int set, int turning) {
        if (set < 0 || set > 1023 || set >> warp.cards.size() != 0 || turning < 0 || turning > 3) {
            return -2;
        }
        if (warp.cards.isEmpty()) {
            return -3;
        }
        if (warp.rows.size() == 50) {
            return -4;
        }
        int[] turnings = new int[warp.cards.size()];
        for (int c = 0; c < turnings.length; c++) {
            turnings[c] = (set & 1 << c) != 0 ? turning : 0;
        }
        return warp.pick(turnings) ? warp.rows.size() : -6;
    }

    public int weave(int n) {
        if (n < 1 || n > 50) {
            return -2;
        }
        if (warp.cards.isEmpty()) {
            return -3;
        }
        for (int done = 0; done < n; done++) {
            if (warp.rows.size() == 50 || !warp.pick(warp.lawful())) {
                return done;
            }
        }
        return n;
    }

    public int unweave(int n) {
        if (n < 1 || n > 50) {
            return -2;
        }
        int taken = Math.min(n, warp.rows.size());
        for (int i = 0; i < taken; i++) {
            int[][] row = warp.rows.remove(warp.rows.size() - 1);
            warp.picks--;
            for (int c = 0; c < row.length; c++) {
                int turning = row[c][2];
                warp.cards.get(c)[5] = (warp.cards.get(c)[5] + new int[] {0, 3, 1, 2}[turning]) % 4;
                warp.cards.get(c)[6] += new int[] {0, -1, 1, -2}[turning];
            }
        }
        return taken;
    }

    private int cell(int row, int card, int what) {
        return isRow(row) && isCard(card) ? warp.rows.get(row)[card][what] : -1;
    }

    public int front(int row, int card) {
        return cell(row, card, 0);
    }

    public int back(int row, int card) {
        return cell(row, card, 1);
    }

    public int turning(int row, int card) {
        return cell(row, card, 2);
    }

    public int lean(int row, int card) {
        return cell(row, card, 3);
    }

    private static boolean standsAs(Warp one, Warp other, int what) {
        for (int c = 0; c < one.cards.size(); c++) {
            if (one.cards.get(c)[what] != (other == null ? 0 : other.cards.get(c)[what])) {
                return false;
            }
        }
        return true;
    }

    public int returns() {
        if (warp.cards.isEmpty()) {
            return -3;
        }
        Warp thought = warp.copy();
        for (int p = 1; p <= 200 && thought.pick(thought.lawful()); p++) {
            if (standsAs(thought, warp, 5)) {
                return p;
            }
        }
        return -5;
    }

    public int flat() {
        if (warp.cards.isEmpty()) {
            return -3;
        }
        Warp thought = warp.copy();
        for (int p = 0; p <= 200; p++) {
            if (standsAs(thought, null, 6)) {
                return p;
            }
            if (!thought.pick(thought.lawful())) {
                return -5;
            }
        }
        return -5;
    }

    public int jam() {
        if (warp.cards.isEmpty()) {
            return -3;
        }
        Warp thought = warp.copy();
        for (int p = 1; p <= 200; p++) {
            if (!thought.pick(thought.lawful())) {
                return p;
            }
        }
        return -5;
    }

    public int undoing(int i, int what) {
        Warp thought = warp.copy();
        List<int[]> picks = new ArrayList<>();
        for (int turning = 2; turning >= 1; turning--) {
            for (int set = 1; set != 0;) {
                set = 0;
                for (int c = 0; c < thought.cards.size(); c++) {
                    int[] card = thought.cards.get(c);
                    if (turning == 2 && card[6] > 0 || turning == 1 && card[6] < 0) {
                        set += 1 << c;
                        card[6] += turning == 2 ? -1 : 1;
                    }
                }
                if (set != 0) {
                    picks.add(new int[] {set, turning});
                }
            }
        }
        if (i < -1 || i >= picks.size() || what != 0 && what != 1) {
            return -1;
        }
        return i == -1 ? picks.size() : picks.get(i)[what];
    }

    public int paint(int line, int card, int colour) {
        if (line < 0 || line >= picture.length || card < 0 || card > 9) {
            return -1;
        }
        if (colour < 0 || colour > 9) {
            return -2;
        }
        int was = picture[line][card];
        picture[line][card] = colour;
        return was;
    }

    public int lines(int n) {
        if (n < 0 || n > 8) {
            return -2;
        }
        int had = picture.length;
        picture = Arrays.copyOf(picture, n);
        for (int line = had; line < n; line++) {
            picture[line] = new int[10];
        }
        return had;
    }

    /** All ways are tried, in the order in which they are ahead; null: LOST. */
    private int[] draftOf(int c) {
        int[] card = warp.cards.get(c);
        int[] best = null;
        int fewest = 99;
        int ways = (int) Math.pow(3, picture.length);
        for (int way = 0; way < ways; way++) {
            int[] turnings = new int[picture.length];
            int left = way;
            for (int line = picture.length - 1; line >= 0; line--) {
                turnings[line] = (left % 3 + 1) % 3;
                left /= 3;
            }
            int place = card[5];
            int turns = 0;
            boolean fits = true;
            for (int line = 0; line < picture.length && fits; line++) {
                place = (place + new int[] {0, 1, 3}[turnings[line]]) % 4;
                turns += turnings[line] == 0 ? 0 : 1;
                fits = card[place] == picture[line][c];
            }
            if (fits && turns < fewest) {
                fewest = turns;
                best = turnings;
            }
        }
        return best;
    }

    public int draft(int line, int card) {
        if (line < 0 || line >= picture.length || !isCard(card)) {
            return -1;
        }
        int[] turnings = draftOf(card);
        return turnings == null ? -5 : turnings[line];
    }

    public int fewest(int card) {
        if (card < -1 || card >= warp.cards.size()) {
            return -1;
        }
        int sum = 0;
        for (int c = 0; c < warp.cards.size(); c++) {
            if (card == -1 || card == c) {
                int[] turnings = draftOf(c);
                if (turnings == null) {
                    return -5;
                }
                for (int turning : turnings) {
                    sum += turning == 0 ? 0 : 1;
                }
            }
        }
        return sum;
    }

    public int weaveDraft() {
        if (warp.cards.isEmpty() || picture.length == 0 || fewest(-1) == -5) {
            return -3;
        }
        if (warp.rows.size() + picture.length > 50) {
            return -4;
        }
        int[][] drafts = new int[warp.cards.size()][];
        for (int c = 0; c < drafts.length; c++) {
            drafts[c] = draftOf(c);
        }
        Warp thought = warp.copy();
        for (int line = 0; line < picture.length; line++) {
            int[] turnings = new int[drafts.length];
            for (int c = 0; c < drafts.length; c++) {
                turnings[c] = drafts[c][line];
            }
            if (!thought.pick(turnings)) {
                return -6;
            }
        }
        warp = thought;
        return warp.rows.size();
    }

    public int matches(int from) {
        if (!isRow(from)) {
            return -1;
        }
        int found = 0;
        for (int k = 0; isRow(from + k) && k < picture.length; k++) {
            for (int c = 0; c < warp.cards.size(); c++) {
                found += front(from + k, c) == picture[k][c] ? 1 : 0;
            }
        }
        return found;
    }

    public int period() {
        int rows = warp.rows.size();
        List<String> all = new ArrayList<>();
        for (int row = 0; row < rows; row++) {
            all.add(fronts(row));
        }
        for (int p = 1; p < rows; p++) {
            if (all.subList(0, rows - p).equals(all.subList(p, rows))) {
                return p;
            }
        }
        return -5;
    }

    public int mirrors() {
        int found = 0;
        for (int row = 0; row < warp.rows.size(); row++) {
            String text = fronts(row);
            found += new StringBuilder(text).reverse().toString().equals(text) ? 1 : 0;
        }
        return found;
    }

    public int run(int colour) {
        if (colour < 0 || colour > 9) {
            return -2;
        }
        int most = 0;
        for (int c = 0; c < warp.cards.size(); c++) {
            most = Math.max(most, longest(column(c, 0), (char) ('0' + colour)));
        }
        return most;
    }

    public int colours(int colour, int what) {
        if (colour < 0 || colour > 9) {
            return -2;
        }
        if (what < 0 || what > 2) {
            return -1;
        }
        int found = 0;
        for (int c = 0; c < warp.cards.size(); c++) {
            if (what == 2) {
                for (int hole = 0; hole < 4; hole++) {
                    found += warp.cards.get(c)[hole] == colour ? 1 : 0;
                }
            } else {
                found += column(c, what).chars().filter(sign -> sign == '0' + colour).count();
            }
        }
        return found;
    }

    public int ranked(int i) {
        if (i < 0 || i > 9) {
            return -1;
        }
        List<Integer> ranking = new ArrayList<>();
        for (int colour = 0; colour < 10; colour++) {
            ranking.add(colour);
        }
        ranking.sort((one, other) -> {
            int fronts = colours(other, 0) - colours(one, 0);
            int backs = colours(one, 1) - colours(other, 1);
            return fronts != 0 ? fronts : backs != 0 ? backs : one - other;
        });
        return ranking.get(i);
    }

    public int alike(int row, int other) {
        if (!isRow(row) || !isRow(other)) {
            return -1;
        }
        int found = 0;
        for (int c = 0; c < warp.cards.size(); c++) {
            found += fronts(row).charAt(c) == fronts(other).charAt(c) ? 1 : 0;
        }
        return found;
    }

    public int faces(int row) {
        if (!isRow(row)) {
            return -1;
        }
        int found = 0;
        for (int[] cell : warp.rows.get(row)) {
            found += cell[0] == cell[1] ? 1 : 0;
        }
        return found;
    }

    public int spell() {
        List<String> parts = new ArrayList<>();
        for (int[] card : warp.cards) {
            String part = "";
            for (int hole = 0; hole < 4; hole++) {
                part += "abcdefghij".charAt(card[hole]);
            }
            parts.add(part + "SZ".charAt(card[4]));
        }
        paper = String.join(";", parts);
        return paper.length();
    }

    public int paper(int i) {
        return i >= 0 && i < paper.length() ? paper.charAt(i) : -1;
    }

    public int told(int what) {
        int twists = 0;
        int longest = 0;
        for (int c = 0; c < warp.cards.size(); c++) {
            twists += Math.abs(warp.cards.get(c)[6]);
            longest = Math.max(longest, card(c, 7));
        }
        int[] all = {warp.cards.size(), warp.rows.size(), warp.picks, twists, picture.length, longest, tape.length(),
            paper.length()};
        return what >= 0 && what < 8 ? all[what] : -1;
    }

    private boolean isList(int list) {
        return list >= 0 && list < 4;
    }

    public int list(int list, int n) {
        if (!isList(list)) {
            return -1;
        }
        if (n > 20) {
            return -2;
        }
        if (n < 0) {
            return -14;
        }
        lists[list] = new int[n];
        return 1;
    }

    public int set(int list, int i, int v) {
        if (!isList(list)) {
            return -1;
        }
        if (lists[list] == null) {
            return -11;
        }
        if (i < 0 || i >= lists[list].length) {
            return -13;
        }
        lists[list][i] = v;
        return 1;
    }

    public int get(int list, int i) {
        return isList(list) && lists[list] != null && i >= 0 && i < lists[list].length ? lists[list][i] : -2000000000;
    }

    public int lay(int list, int i, int row) {
        if (!isList(list) || !isRow(row)) {
            return -1;
        }
        if (lists[list] == null) {
            return -11;
        }
        int cards = warp.cards.size();
        int laid = 0;
        for (long at = i; at >= 0 && at < lists[list].length && laid < cards; at++) {
            lists[list][(int) at] = front(row, laid++);
        }
        return laid == cards ? cards : -13;
    }

    public int judge(int list, int i, int row) {
        if (!isList(list) || !isRow(row)) {
            return -1;
        }
        if (lists[list] == null) {
            return -11;
        }
        int looked = 0;
        for (long at = i; at >= 0 && at < lists[list].length && looked < warp.cards.size(); at++) {
            if (lists[list][(int) at] != front(row, looked)) {
                return looked;
            }
            looked++;
        }
        return looked == warp.cards.size() ? -5 : 100 + looked;
    }

    public int image() {
        image = warp.copy();
        return image.rows.size();
    }

    public int undo() {
        if (image == null) {
            return -3;
        }
        warp = image.copy();
        return warp.rows.size();
    }
}
