import java.util.regex.Pattern;

/**
 * Promise 5: the FAULT by the document's words alone. A text goes on as far as some ending makes it a LAW; whether it is
 * one is told by putting L for each part that is a LAW, and by counting what stands open.
 */
public final class LawFaultTest {
    private static final Check check = new Check("LawFaultTest");
    private static final Pattern PART = Pattern.compile(
        "[ifbh]|[kx](0?[1-9]|[1-9][0-9])\\(L,L\\)|c[0-9]{1,2}\\(L,L\\)|t\\(L,L\\)|s[0-9]{1,2}\\(L\\)|[drm]\\(L\\)");
    private static final String SIGNS = "ifbhkcxsdrmt(),0129";
    private static long seed = 5112026;

    public static void main(String[] args) {
        check.holds("5: the seven deep", isAsTold("r(r(r(r(r(r(r", 12));
        check.holds("5: not behind it", !isAsTold("r(r(r(r(r(r(r", 13));
        for (int depth = 0; depth < 10; depth++) {
            for (int i = 0; i < SIGNS.length(); i++) {
                look(nested(depth) + SIGNS.charAt(i));
                look(nested(depth) + SIGNS.charAt(i) + nested(2) + "f");
            }
        }
        for (int i = 0; i < 4000; i++) {
            look(anyText());
        }
        check.end();
    }

    private static void look(String text) {
        int answer = text.length() > 80 ? -100 : Check.law(new CardLoom(), text);
        if (text.length() <= 80) {
            boolean holds = answer > 0 ? isLaw(text) : isAsTold(text, -100 - answer);
            check.holds("5: '" + text + "' answered " + answer + ", that it", holds);
        }
    }

    private static boolean isAsTold(String text, int fault) {
        if (fault < 0 || fault > text.length() || isLaw(text) || !goesOn(text.substring(0, fault))) {
            return false;
        }
        for (int at = 0; at < fault; at++) {
            if (isBadNumber(text, at)) {
                return false;
            }
        }
        return fault == text.length() || isBadNumber(text, fault) || !goesOn(text.substring(0, fault + 1));
    }

    /** A 0 that a k or an x has behind it, of two figures at most. */
    private static boolean isBadNumber(String text, int at) {
        return at > 0 && "kx".indexOf(text.charAt(at - 1)) >= 0 && text.substring(at).matches("(?s)0(0.*|[^0-9].*)?");
    }

    private static boolean isLaw(String text) {
        if (text.indexOf('L') >= 0 || !isShallow(text)) {
            return false;
        }
        String part = text;
        String before = "";
        while (!part.equals(before)) {
            before = part;
            part = PART.matcher(part).replaceAll("L");
        }
        return part.equals("L");
    }

    private static boolean isShallow(String text) {
        int open = 0;
        for (char sign : text.toCharArray()) {
            open += sign == '(' ? 1 : sign == ')' ? -1 : 0;
            if (open < 0 || open > 6) {
                return false;
            }
        }
        return open == 0;
    }

    /** An ending of the shortest kind is looked for: if any is there, one of these is. */
    private static boolean goesOn(String text) {
        for (int way = 0; way < 8; way++) {
            String more = text + ((way & 1) != 0 ? "1" : "") + ((way & 2) != 0 ? "(" : "") + ((way & 4) != 0 ? "f" : "");
            int open = 0;
            for (char sign : more.toCharArray()) {
                open += sign == '(' ? 1 : sign == ')' ? -1 : 0;
            }
            if (open >= 0 && open <= 6 && closes(more, open)) {
                return true;
            }
        }
        return false;
    }

    private static boolean closes(String text, int open) {
        for (int ways = 0; ways < 1 << open; ways++) {
            StringBuilder whole = new StringBuilder(text);
            for (int i = 0; i < open; i++) {
                whole.append((ways >> i & 1) == 0 ? ")" : ",f)");
            }
            if (isLaw(whole.toString())) {
                return true;
            }
        }
        return false;
    }

    private static int any(int n) {
        seed = seed * 6364136223846793005L + 1442695040888963407L;
        return (int) ((seed >>> 33) % n);
    }

    private static String nested(int depth) {
        StringBuilder text = new StringBuilder();
        for (int i = 0; i < depth; i++) {
            text.append(new String[] {"r(", "s7(", "t(f,", "k3(", "d(", "k03(b,"}[any(6)]);
        }
        return text.toString();
    }

    /** A LAW, some of them too deep, often cut, often with one sign changed. */
    private static String anyText() {
        StringBuilder text = new StringBuilder(lawOf(any(9)));
        if (any(3) > 0) {
            text.setCharAt(any(text.length()), SIGNS.charAt(any(SIGNS.length())));
        }
        if (any(3) == 0) {
            text.setLength(any(text.length() + 1));
        }
        return text.toString();
    }

    private static String lawOf(int depth) {
        if (depth == 0) {
            return "" + "ifbh".charAt(any(4));
        }
        String letter = "" + "kcxsdrmt".charAt(any(8));
        String number = "kcxs".contains(letter) ? "" + any(100) : "";
        String second = "kcxt".contains(letter) ? "," + lawOf(any(2) == 0 ? 0 : any(depth)) : "";
        return letter + number + "(" + lawOf(depth - 1) + second + ")";
    }
}
