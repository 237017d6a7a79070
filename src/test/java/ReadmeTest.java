import java.io.IOException;
import java.lang.reflect.Method;
import java.lang.reflect.Modifier;
import java.nio.file.Files;
import java.nio.file.Path;
import java.util.regex.Matcher;
import java.util.regex.Pattern;

/** README.md: its run of calls answers as it says, it names every call, and has the document's own words on answers. */
public final class ReadmeTest {
    private static final Check check = new Check("ReadmeTest");
    private static final Pattern FED = Pattern.compile("for \\(char c : \"([^\"]*)\"\\.toCharArray\\(\\)\\) loom\\.feed\\(c\\);");
    private static final Pattern CALL = Pattern.compile("loom\\.(\\w+)\\(([-0-9, ]*)\\);\\s*// (-?\\d+): .+");

    public static void main(String[] args) throws IOException, ReflectiveOperationException {
        String page = Files.readString(Path.of("README.md"));
        example(page);
        everyCall(page);
        wordsOfTheDocument(page);
        howTestsAreRun(page);
        check.end();
    }

    private static void example(String page) throws ReflectiveOperationException {
        Matcher block = Pattern.compile("(?s)```java\n(.*?)```").matcher(page);
        check.holds("an example in Java", block.find());
        String[] lines = block.group(1).split("\n");
        check.same("its first line", lines[0], "CardLoom loom = new CardLoom();");
        CardLoom loom = new CardLoom();
        for (int i = 1; i < lines.length; i++) {
            Matcher fed = FED.matcher(lines[i]);
            Matcher call = CALL.matcher(lines[i]);
            if (fed.matches()) {
                Check.feed(loom, fed.group(1));
            } else if (call.matches()) {
                check.due(lines[i], answer(loom, call.group(1), call.group(2)), Integer.parseInt(call.group(3)));
            } else {
                check.holds("a line that can be run: " + lines[i], false);
            }
        }
    }

    private static int answer(CardLoom loom, String name, String values) throws ReflectiveOperationException {
        String[] parts = values.isEmpty() ? new String[0] : values.split(", ");
        Class<?>[] types = new Class<?>[parts.length];
        Object[] numbers = new Object[parts.length];
        for (int i = 0; i < parts.length; i++) {
            types[i] = int.class;
            numbers[i] = Integer.valueOf(parts[i]);
        }
        return (Integer) CardLoom.class.getMethod(name, types).invoke(loom, numbers);
    }

    private static void everyCall(String page) {
        for (Method method : CardLoom.class.getDeclaredMethods()) {
            if (Modifier.isPublic(method.getModifiers())) {
                int count = method.getParameterCount();
                String values = count == 0 ? "" : "\\w+" + ", \\w+".repeat(count - 1);
                Pattern told = Pattern.compile("(?m)^\\|.*`" + method.getName() + "\\(" + values + "\\)`.*\\|.*\\|$");
                check.holds("a row for " + method.getName() + "/" + count, told.matcher(page).find());
            }
        }
    }

    /** Looked for as the document has them, however the page breaks its lines. */
    private static void wordsOfTheDocument(String page) throws IOException {
        String words = flat(page);
        String document = flat(Files.readString(Path.of("../shared/DOC.md")));
        String[][] fromTo = {{"Answers: NONE", "each call that reads it."}, {"An object is used for at most 512", "is free."},
            {"NOTHING (-11)", "a size below 0"}};
        for (String[] ends : fromTo) {
            int from = document.indexOf(ends[0]);
            int to = from < 0 ? -1 : document.indexOf(ends[1], from);
            check.holds("the document has: " + ends[0], to > from);
            String due = to > from ? document.substring(from, to + ends[1].length()) : ends[0];
            check.holds("README.md has: " + due, words.contains(due));
        }
    }

    private static String flat(String text) {
        return text.replaceAll("(?m)^> ?", "").replaceAll("\\s+", " ");
    }

    private static void howTestsAreRun(String page) {
        for (String name : new String[] {".ci/run", "../shared/tests", "src/test/java", "NOTES.md", "PickEdgesTest"}) {
            check.holds("README.md names " + name, page.contains(name));
        }
        check.holds("the test that it runs is there", Files.exists(Path.of("src/test/java/PickEdgesTest.java")));
    }
}
