import java.lang.reflect.Method;
import java.lang.reflect.Modifier;
import java.nio.file.Files;
import java.nio.file.Path;
import java.util.ArrayList;
import java.util.List;
import java.util.Map;
import java.util.Set;
import java.util.TreeMap;
import java.util.TreeSet;
import java.util.regex.Matcher;
import java.util.regex.Pattern;

/** README.md keeps its word: its example answers as its comments tell, its tables are the document's face. */
public final class ReadmeTest {
    private static final Path README = Path.of("README.md");
    private static final Path DOCUMENT = Path.of("../shared/DOC.md");
    /** A call on x, the answer that its comment begins with, and what the comment quotes as text, if it does. */
    private static final Pattern CALL = Pattern.compile("x\\.(\\w+)\\(([^)]*)\\); +// (-?\\d+): ([^\"]*(\"([^\"]*)\")?.*)");
    private static final Check check = new Check();

    public static void main(String[] args) throws Exception {
        String readme = Files.readString(README);
        example(readme);
        face(readme);
        refusals(readme);
        check.close();
    }

    private static void example(String readme) throws Exception {
        check.head("the example");
        Matcher block = Pattern.compile("(?s)```java\n(.*?)```").matcher(readme);
        if (!block.find()) {
            check.due("there is one", 0, 1);
            return;
        }
        String[] lines = block.group(1).split("\n");
        check.due("line 1", lines[0], "StyledRuns x = new StyledRuns();");
        StyledRuns x = new StyledRuns();
        for (int k = 1; k < lines.length; k++) {
            Matcher call = CALL.matcher(lines[k]);
            if (!call.matches()) {
                check.due("a call with its answer: " + lines[k], 0, 1);
                continue;
            }
            check.due(lines[k], answer(x, call.group(1), call.group(2)), Integer.parseInt(call.group(3)));
            quoted(x, call.group(1), call.group(6));
        }
    }

    private static int answer(StyledRuns x, String name, String list) throws Exception {
        String[] texts = list.isEmpty() ? new String[0] : list.split(", ");
        Object[] numbers = new Object[texts.length];
        for (int k = 0; k < texts.length; k++) {
            numbers[k] = texts[k].equals("StyledRuns.NONE") ? StyledRuns.NONE : Integer.decode(texts[k]);
        }
        for (Method method : StyledRuns.class.getMethods()) {
            if (method.getName().equals(name) && method.getParameterCount() == numbers.length) {
                return (Integer) method.invoke(x, numbers);
            }
        }
        check.due("there is " + name + "(" + list + ")", 0, 1);
        return 0;
    }

    /** A text that a comment quotes is what stands on the tape or as letters then. */
    private static void quoted(StyledRuns x, String name, String text) {
        if (text == null) {
            return;
        }
        if (name.equals("feed")) {
            check.due("the tape", Check.tapeOf(x).replace("\0", ""), text);
        } else if (name.equals("write")) {
            check.due("the tape", Check.tapeOf(x), text);
        } else if (name.equals("cut")) {
            check.due("the letters", Check.lettersOf(x), text);
        }
    }

    /** Each method of the document's face stands once in a table, with its parameters; and no other. */
    private static void face(String readme) throws Exception {
        check.head("the tables");
        Set<String> want = new TreeSet<>();
        Matcher line = Pattern.compile("public int (\\w+\\([^)]*\\));").matcher(Files.readString(DOCUMENT));
        while (line.find()) {
            want.add(line.group(1));
        }
        List<String> have = new ArrayList<>();
        Matcher row = Pattern.compile("(?m)^\\| `([^`]*)` \\|").matcher(readme);
        while (row.find()) {
            have.add(row.group(1));
        }
        int shown = 0;
        for (Method method : StyledRuns.class.getDeclaredMethods()) {
            shown += Modifier.isPublic(method.getModifiers()) ? 1 : 0;
        }
        check.due("rows", have.size(), shown);
        check.due("methods", new TreeSet<>(have).toString(), want.toString());
    }

    /** By what a call is refused, as its promise names it; the calls that are refused are those of status(). */
    private static void refusals(String readme) throws Exception {
        check.head("what is refused");
        String document = Files.readString(DOCUMENT);
        Matcher told = Pattern.compile("latest call of ([a-z, ]*) was REFUSED").matcher(document);
        if (!told.find()) {
            check.due("status() names calls", 0, 1);
            return;
        }
        Map<String, String> want = new TreeMap<>();
        for (String name : told.group(1).split(", ")) {
            want.put(name, refusalsInDocument(document, name));
        }
        Map<String, String> have = new TreeMap<>();
        Matcher row = Pattern.compile("(?m)^\\| `(\\w+)\\([^`]*` \\| .* \\| (-[-0-9, ]*) \\|$").matcher(readme);
        while (row.find()) {
            have.put(row.group(1), row.group(2));
        }
        check.due("by what", have.toString(), want.toString());
    }

    private static String refusalsInDocument(String document, String name) {
        Matcher promise = Pattern.compile("(?m)^`int " + name + "\\([^`]*`: (.*)$").matcher(document);
        if (!promise.find()) {
            return "no promise";
        }
        StringBuilder numbers = new StringBuilder();
        Matcher number = Pattern.compile("-[1-6]").matcher(promise.group(1));
        while (number.find()) {
            numbers.append(numbers.length() == 0 ? "" : ", ").append(number.group());
        }
        return numbers.toString();
    }
}
