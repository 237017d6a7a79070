import java.lang.reflect.Method;
import java.lang.reflect.Modifier;
import java.util.ArrayList;
import java.util.Comparator;
import java.util.List;

/** Long runs of calls on a CardLoom and on the Model: each answer is the same. The runs are the same each time. */
public final class ModelTest {
    private static final Check check = new Check("ModelTest");
    private static final int RUNS = 400, CALLS = 512;
    private static long seed = 20261118;

    public static void main(String[] args) throws ReflectiveOperationException {
        List<Method> calls = new ArrayList<>();
        for (Method method : CardLoom.class.getDeclaredMethods()) {
            if (Modifier.isPublic(method.getModifiers())) {
                calls.add(method);
            }
        }
        calls.sort(Comparator.comparing(Method::getName));
        for (int run = 0; run < RUNS; run++) {
            oneRun(calls, run);
        }
        faults();
        drafts();
        check.end();
    }

    /** A number 0 .. below n - 1, by a rule of this file's own. */
    private static int any(int n) {
        seed = seed * 6364136223846793005L + 1442695040888963407L;
        return (int) ((seed >>> 33) % n);
    }

    private static void oneRun(List<Method> calls, int run) throws ReflectiveOperationException {
        CardLoom x = new CardLoom();
        Model y = new Model();
        boolean deep = run % 4 == 0;
        int left = CALLS;
        while (left > 0) {
            int kind = any(20);
            if (kind == 0 && left > 60) {
                left -= text(x, y, threading(), true, run);
            } else if (kind == 1 && left > 81) {
                left -= text(x, y, law(deep ? 5 : 2), false, run);
            } else if (kind == 2 && left > 12) {
                left -= paintWell(x, y, run);
            } else if (kind < 6 && left > 9) {
                left -= weaveMuch(x, y, run);
            } else {
                Method call = calls.get(any(calls.size()));
                Object[] values = new Object[call.getParameterCount()];
                for (int i = 0; i < values.length; i++) {
                    values[i] = value(call.getName(), i);
                }
                Method other = Model.class.getMethod(call.getName(), call.getParameterTypes());
                String what = "run " + run + " " + call.getName() + java.util.Arrays.toString(values);
                check.due(what, (Integer) call.invoke(x, values), (Integer) other.invoke(y, values));
                left--;
            }
        }
    }

    private static int value(String name, int i) {
        int kind = any(40);
        if (kind == 0) {
            return Integer.MAX_VALUE;
        }
        if (kind == 1) {
            return Integer.MIN_VALUE;
        }
        if (kind < 5) {
            return any(140) - 20;
        }
        if (name.equals("pack") && i == 0) {
            return any(2) == 0 ? any(16) : any(1024);
        }
        if (name.equals("feed")) {
            return any(2) == 0 ? 'f' : any(129);
        }
        if (name.equals("lines")) {
            return any(6);
        }
        if (name.equals("unweave")) {
            return any(5);
        }
        if (name.startsWith("weave")) {
            return any(12);
        }
        if (name.equals("list") && i == 1) {
            return any(24) - 1;
        }
        return any(any(2) == 0 ? 5 : 12) - 1;
    }

    private static int text(CardLoom x, Model y, String text, boolean isThreading, int run) {
        check.due("run " + run + " clear", x.clear(), y.clear());
        for (int i = 0; i < text.length(); i++) {
            check.due("run " + run + " feed", x.feed(text.charAt(i)), y.feed(text.charAt(i)));
        }
        String what = "run " + run + " of '" + text + "'";
        check.due(what, isThreading ? x.thread() : x.law(), isThreading ? y.thread() : y.law());
        return text.length() + 2;
    }

    /** A PICTURE that most CARDS can weave: a colour of theirs. */
    private static int paintWell(CardLoom x, Model y, int run) {
        int lines = any(9);
        check.due("run " + run + " lines", x.lines(lines), y.lines(lines));
        int calls = 1;
        for (int i = 0; i < 10 && lines > 0; i++) {
            int line = any(lines);
            int card = any(3);
            int colour = Math.max(0, y.card(card, any(4)));
            check.due("run " + run + " paint", x.paint(line, card, colour), y.paint(line, card, colour));
            calls++;
        }
        return calls;
    }

    private static int weaveMuch(CardLoom x, Model y, int run) {
        int n = 1 + any(any(3) == 0 ? 50 : 8);
        check.due("run " + run + " weave", x.weave(n), y.weave(n));
        for (int what = 0; what < 8; what++) {
            check.due("run " + run + " told " + what, x.told(what), y.told(what));
        }
        return 9;
    }

    private static String threading() {
        StringBuilder text = new StringBuilder();
        int cards = any(4) == 0 ? 1 + any(10) : 1 + any(4);
        int colours = 1 + any(any(2) == 0 ? 3 : 10);
        for (int c = 0; c < cards; c++) {
            text.append(c == 0 ? "" : ";");
            for (int hole = 0; hole < 4; hole++) {
                text.append((char) ('a' + any(colours)));
            }
            text.append(any(2) == 0 ? 'S' : 'Z');
        }
        return any(12) == 0 ? spoiled(text, "aSZ;jkT") : text.toString();
    }

    private static String law(int depth) {
        String text = lawOf(depth);
        while (text.length() > 79) {
            text = lawOf(depth);
        }
        return any(8) == 0 ? spoiled(new StringBuilder(text), "ifbhkcxsdrmt(),0129") : text;
    }

    private static String lawOf(int depth) {
        int kind = any(depth > 0 ? 12 : 4);
        if (kind < 4) {
            return "" + "ifbh".charAt(kind);
        }
        String letter = "" + "kcxsdrmt".charAt(kind - 4);
        if (kind < 8) {
            letter += any(3) == 0 ? any(100) : any(8);
        }
        String first = lawOf(depth - 1);
        boolean isPair = kind < 7 || kind == 11;
        return letter + "(" + first + (isPair ? "," + lawOf(depth - 1) : "") + ")";
    }

    private static String spoiled(StringBuilder text, String signs) {
        int at = any(text.length());
        char sign = signs.charAt(any(signs.length()));
        switch (any(4)) {
            case 0 -> text.setCharAt(at, sign);
            case 1 -> text.insert(at, sign);
            case 2 -> text.deleteCharAt(at);
            default -> text.setLength(at);
        }
        return text.toString();
    }

    /** Texts with a depth about the greatest one, sound and spoiled. */
    private static void faults() {
        for (int i = 0; i < 20000; i++) {
            CardLoom x = new CardLoom();
            Model y = new Model();
            String text = any(3) == 0 ? deepLaw(4 + any(5)) : lawOf(7);
            if (any(2) == 0) {
                text = spoiled(new StringBuilder(text), "ifbhkcxsdrmt(),0129");
            }
            if (text.length() <= 80) {
                text(x, y, text, false, i);
            }
        }
    }

    /** Cards of few colours, with pictures that a walk over their holes has made: many ways weave them. */
    private static void drafts() {
        for (int i = 0; i < 2000; i++) {
            CardLoom x = new CardLoom();
            Model y = new Model();
            int colours = 2 + any(2);
            String card = "";
            for (int hole = 0; hole < 4; hole++) {
                card += (char) ('a' + any(colours));
            }
            text(x, y, card + "S", true, i);
            int lines = 1 + any(7);
            int place = any(4);
            check.due("lines", x.lines(lines), y.lines(lines));
            for (int line = 0; line < lines; line++) {
                place = any(3) == 0 ? place : (place + 1 + 2 * any(2)) % 4;
                int colour = any(30) == 0 ? any(colours) : card.charAt(place) - 'a';
                check.due("paint", x.paint(line, 0, colour), y.paint(line, 0, colour));
            }
            for (int top = 0; top < 4; top++) {
                check.due("place", x.place(0, top), y.place(0, top));
                check.due("fewest of " + card, x.fewest(0), y.fewest(0));
                for (int line = 0; line < lines; line++) {
                    check.due("draft of " + card + " line " + line, x.draft(line, 0), y.draft(line, 0));
                }
            }
            check.due("weaveDraft", x.weaveDraft(), y.weaveDraft());
            check.due("matches", x.matches(0), y.matches(0));
        }
    }

    private static String deepLaw(int depth) {
        if (depth == 0) {
            return "f";
        }
        String part = deepLaw(depth - 1);
        String[] all = {"r(" + part + ")", "s7(" + part + ")", "t(f," + part + ")", "k3(" + part + ",b)", "d(" + part + ")"};
        return all[any(5)];
    }
}
