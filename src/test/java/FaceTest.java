import java.io.IOException;
import java.lang.reflect.Constructor;
import java.lang.reflect.Field;
import java.lang.reflect.Method;
import java.lang.reflect.Modifier;
import java.nio.file.Files;
import java.nio.file.Path;
import java.util.Arrays;
import java.util.HashSet;
import java.util.Set;
import java.util.regex.Matcher;
import java.util.regex.Pattern;

/** The public face, and what of ../shared/LANGUAGE.md can be looked up in the text and the class. */
public final class FaceTest {
    private static final Check check = new Check("FaceTest");
    private static final String[] FACE = {"feed/1", "clear/0", "thread/0", "law/0", "card/2", "slant/1", "place/2",
        "recolour/3", "turn/2", "pack/2", "weave/1", "unweave/1", "front/2", "back/2", "lean/2", "turning/2",
        "returns/0", "flat/0", "jam/0", "undoing/2", "paint/3", "lines/1", "draft/2", "fewest/1", "weaveDraft/0",
        "matches/1", "period/0", "mirrors/0", "run/1", "colours/2", "ranked/1", "alike/2", "faces/1", "spell/0",
        "paper/1", "told/1", "list/2", "set/3", "get/2", "lay/3", "judge/3", "image/0", "undo/0"};

    public static void main(String[] args) throws IOException, ReflectiveOperationException {
        constants();
        methods();
        inside();
        words();
        check.end();
    }

    private static void constants() throws ReflectiveOperationException {
        String[] names = {"NONE", "BAD", "STATE", "FULL", "JAMS"};
        int[] values = {-1, -2, -3, -4, -6};
        for (int i = 0; i < names.length; i++) {
            check.due(names[i], CardLoom.class.getField(names[i]).getInt(null), values[i]);
        }
        check.due("no other public field", CardLoom.class.getFields().length, names.length);
        for (Field field : CardLoom.class.getDeclaredFields()) {
            int is = field.getModifiers();
            check.holds("field " + field.getName(), Modifier.isPublic(is) || Modifier.isPrivate(is));
            check.holds("static " + field.getName(), !Modifier.isStatic(is) || Modifier.isFinal(is));
        }
    }

    private static void methods() {
        Set<String> due = new HashSet<>(Arrays.asList(FACE));
        Set<String> names = new HashSet<>();
        for (String signature : FACE) {
            names.add(signature.substring(0, signature.indexOf('/')));
        }
        check.holds("final", Modifier.isFinal(CardLoom.class.getModifiers()));
        Constructor<?>[] constructors = CardLoom.class.getDeclaredConstructors();
        check.due("constructors", constructors.length, 1);
        check.holds("public constructor", Modifier.isPublic(constructors[0].getModifiers()));
        for (Method method : CardLoom.class.getDeclaredMethods()) {
            String signature = method.getName() + "/" + method.getParameterCount();
            if (Modifier.isPrivate(method.getModifiers())) {
                check.holds("private " + signature, !names.contains(method.getName()));
            } else {
                check.holds("face has " + signature, due.remove(signature));
                check.holds(signature + " answers an int", method.getReturnType() == int.class);
                for (Class<?> type : method.getParameterTypes()) {
                    check.holds(signature + " takes ints", type == int.class);
                }
            }
        }
        check.same("missing", due.toString(), "[]");
    }

    private static void inside() {
        Class<?>[] classes = CardLoom.class.getDeclaredClasses();
        check.holds("some twelve classes", classes.length <= 12);
        for (Class<?> inner : classes) {
            check.holds(inner.getName() + " is static", Modifier.isStatic(inner.getModifiers()));
            check.holds(inner.getName() + " is not public", !Modifier.isPublic(inner.getModifiers()));
            int own = 0;
            for (Field field : inner.getDeclaredFields()) {
                own += Modifier.isStatic(field.getModifiers()) ? 0 : 1;
            }
            check.holds(inner.getName() + " has few fields", own <= 20);
            for (Method method : inner.getDeclaredMethods()) {
                check.holds(method.getName() + " takes at most seven", method.getParameterCount() <= 7);
            }
        }
    }

    private static void words() throws IOException {
        String source = Files.readString(Path.of("src/main/java/CardLoom.java"));
        String code = source.replaceAll("(?s)/\\*.*?\\*/", "").replaceAll("//[^\n]*", "");
        String[] never = {"\\bthrow\\b", "\\btry\\b", "\\bcatch\\b", "\\bsynchronized\\b", "\\bassert\\b", "\\bimport\\b",
            "\\bpackage\\b", "->", "::", "\\bvar\\b", "Exact\\b", "\\bextends\\b", "\"", "\\bprotected\\b",
            "System\\.(?!arraycopy)", "Random", "\\[\\]\\[\\]\\[\\]"};
        for (String word : never) {
            Matcher found = Pattern.compile(word).matcher(code);
            check.holds("no " + word, !found.find());
        }
        for (char sign : source.toCharArray()) {
            if (sign > 126) {
                check.holds("sign " + (int) sign, false);
            }
        }
    }
}
