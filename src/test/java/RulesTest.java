import java.lang.reflect.Constructor;
import java.lang.reflect.Field;
import java.lang.reflect.Method;
import java.lang.reflect.Modifier;
import java.nio.file.Files;
import java.nio.file.Path;
import java.util.Set;
import java.util.TreeSet;
import java.util.regex.Matcher;
import java.util.regex.Pattern;

/** The rules of LANGUAGE.md that can be seen from the source and from the class, and the room that it takes. */
public final class RulesTest {
    private static final Path SOURCE = Path.of("src/main/java/StyledRuns.java");
    private static final Path DOCUMENT = Path.of("../shared/DOC.md");
    private static final Check check = new Check();

    public static void main(String[] args) throws Exception {
        face();
        nestedClasses();
        words();
        strangeArguments();
        room();
        check.close();
    }

    private static void due(String what, long got, long want) {
        check.due(what, got, want);
    }

    /** The public members are those of the document's face, and nothing but private ones stands beside them. */
    private static void face() throws Exception {
        check.head("rule 1");
        Set<String> want = new TreeSet<>();
        Matcher line = Pattern.compile("public int (\\w+)\\(([^)]*)\\);").matcher(Files.readString(DOCUMENT));
        while (line.find()) {
            String types = line.group(2).replaceAll("(int|boolean) \\w+", "$1").replace(" ", "");
            want.add(line.group(1) + "(" + types + ")");
        }
        due("methods of the document", want.size(), 39);
        Set<String> have = new TreeSet<>();
        Set<String> hidden = new TreeSet<>();
        for (Method method : StyledRuns.class.getDeclaredMethods()) {
            if (Modifier.isPublic(method.getModifiers())) {
                have.add(signature(method));
            } else {
                due(method + " is private", Modifier.isPrivate(method.getModifiers()) ? 1 : 0, 1);
                hidden.add(method.getName());
            }
        }
        check.due("methods", have.toString(), want.toString());
        for (Method method : StyledRuns.class.getMethods()) {
            due("no private " + method.getName(), hidden.contains(method.getName()) ? 1 : 0, 0);
        }
        for (Field field : StyledRuns.class.getDeclaredFields()) {
            boolean shown = !Modifier.isPrivate(field.getModifiers());
            due(field + " is private", shown ? 1 : 0, field.getName().equals("NONE") ? 1 : 0);
        }
        Constructor<?>[] makers = StyledRuns.class.getDeclaredConstructors();
        due("constructors", makers.length, 1);
        due("public, without arguments", Modifier.isPublic(makers[0].getModifiers()) ? makers[0].getParameterCount() : 9, 0);
        due("final", Modifier.isFinal(StyledRuns.class.getModifiers()) ? 1 : 0, 1);
    }

    private static String signature(Method method) {
        StringBuilder text = new StringBuilder(method.getName()).append('(');
        for (Class<?> type : method.getParameterTypes()) {
            text.append(text.charAt(text.length() - 1) == '(' ? "" : ",").append(type.getName());
        }
        return text.append(')').toString();
    }

    private static void nestedClasses() {
        check.head("rules 2, 5 and 11");
        Class<?>[] nested = StyledRuns.class.getDeclaredClasses();
        due("at most twelve classes", nested.length + 1 <= 12 ? 1 : 0, 1);
        parametersAndFields(StyledRuns.class);
        for (Class<?> inside : nested) {
            due(inside + " is static", Modifier.isStatic(inside.getModifiers()) ? 1 : 0, 1);
            parametersAndFields(inside);
        }
    }

    private static void parametersAndFields(Class<?> one) {
        for (Method method : one.getDeclaredMethods()) {
            // lay() has eight by the document's face.
            int most = method.getName().equals("lay") ? 8 : 7;
            due("parameters of " + method, method.getParameterCount() <= most ? 1 : 0, 1);
        }
        int fields = 0;
        for (Field field : one.getDeclaredFields()) {
            if (Modifier.isStatic(field.getModifiers())) {
                due(field + " is final", Modifier.isFinal(field.getModifiers()) ? 1 : 0, 1);
            } else {
                fields++;
            }
        }
        due("fields of " + one, fields <= 20 ? 1 : 0, 1);
    }

    private static void words() throws Exception {
        check.head("rules 3, 4, 6 and 13");
        String source = Files.readString(SOURCE).replaceAll("(?s)/\\*.*?\\*/", "").replaceAll("//[^\n]*", "");
        String[] ruledOut = {"\\bthrow\\b", "\\bthrows\\b", "\\btry\\b", "\\bcatch\\b", "\\bsynchronized\\b", "\\bassert\\b",
            "->", "::", "\\bimport\\b", "\\bpackage\\b", "Exact\\b", "\\bjava\\.", "\\bThread\\b", "\\bRandom\\b",
            "System\\.(?!arraycopy\\b)", "\\bstatic\\s*\\{", "\\bhashCode\\b", "\\bObject\\b", "\\bprotected\\b", "\\bvar\\b"};
        for (String word : ruledOut) {
            due("'" + word + "' in the source", Pattern.compile(word).matcher(source).find() ? 1 : 0, 0);
        }
        due("signs are 1 to 127", source.chars().allMatch(c -> c > 0 && c < 128) ? 1 : 0, 1);
    }

    /** Every call, in several states, with every number that might be too much: none may throw. */
    private static void strangeArguments() throws Exception {
        check.head("rule 7");
        int[] numbers = {Integer.MIN_VALUE, -201, -4, -1, 0, 1, 2, 8, 9, 15, 16, 31, 199, 200, 201, 400, 401, Integer.MAX_VALUE};
        StyledRuns[] states = {new StyledRuns(), Check.typed("a".repeat(200)), Check.marked("ab[b]c[/b]")};
        states[1].lay(0, 200, 0, 1, 0, 3, 1, 3);
        states[1].pin(200, 1);
        long seed = 1;
        int thrown = 0;
        for (StyledRuns x : states) {
            for (Method method : StyledRuns.class.getDeclaredMethods()) {
                if (!Modifier.isPublic(method.getModifiers())) {
                    continue;
                }
                for (int round = 0; round < 2000; round++) {
                    Object[] arguments = new Object[method.getParameterCount()];
                    for (int k = 0; k < arguments.length; k++) {
                        seed = seed * 6364136223846793005L + 1442695040888963407L;
                        int number = numbers[(int) ((seed >>> 33) % numbers.length)];
                        boolean flag = method.getParameterTypes()[k] == boolean.class;
                        arguments[k] = flag ? (Object) (number > 0) : (Object) number;
                    }
                    try {
                        method.invoke(x, arguments);
                    } catch (java.lang.reflect.InvocationTargetException e) {
                        thrown++;
                    }
                }
            }
        }
        due("thrown", thrown, 0);
    }

    /** No call may make anything: the room is for what constructors make. */
    private static void room() {
        check.head("rule 12");
        com.sun.management.ThreadMXBean bean =
                (com.sun.management.ThreadMXBean) java.lang.management.ManagementFactory.getThreadMXBean();
        long thread = Thread.currentThread().getId();
        StyledRuns x = Check.typed("a".repeat(200));
        long sum = 0;
        long before = 0;
        for (int round = 0; round < 40; round++) {
            if (round == 20) {
                before = bean.getThreadAllocatedBytes(thread);
            }
            sum += everyCall(x);
        }
        long made = bean.getThreadAllocatedBytes(thread) - before;
        due("calls made " + made + " bytes (" + sum + ")", made < 2000 ? 1 : 0, 1);
    }

    private static long everyCall(StyledRuns x) {
        long sum = x.lay(0, 200, 0, 1, 0, 3, 1, 3) + x.set(0, 0, 2) + x.set(0, 1, 2) + x.stretch(0, 1, 150);
        sum += x.paint(0, 50, 1, 0, 2, 1) + x.move(0, 20, 60) + x.pin(3, 1) + x.cut(0, 4);
        sum += x.feed(0x61626364, 0, 0, 0, 0) + x.end(4) + x.find(0) + x.findBy(0, 1, 1, 0, 0, 9) + x.swap(0, 1);
        sum += x.best(0, 0) + x.idle() + x.raised(0, 3) + x.crossed() + x.span(0, 9) + x.through(3, 1, 5);
        sum += x.unpin(0) + x.lift(0) + x.fast() + x.write() + x.fault() + x.image(0) + x.undo() + x.back(0);
        for (int what = 0; what < 19; what++) {
            sum += x.count(what) + x.style(7, what) + x.run(1, what) + x.stack(7, what) + x.tells(7, what);
            sum += x.styled(0, 1, 1, 0, what) + x.anchor(0, what) + x.tape(what) + x.letter(what);
        }
        x.end(0);
        sum += x.read() + x.feed(0x61616161, 0x61616161, 0x61616161, 0x61616161, 0x61616161) + x.type(0);
        return sum + x.status() + x.follow(0, 1, 0, 1, true);
    }
}
