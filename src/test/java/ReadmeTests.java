import java.lang.reflect.Method;
import java.lang.reflect.Modifier;
import java.nio.file.Files;
import java.nio.file.Path;
import java.util.ArrayList;
import java.util.List;
import java.util.Set;
import java.util.TreeSet;

/** README.md: its example answers what its comments say, and its table has every call. */
public final class ReadmeTests {
    private static final Path README = Path.of("README.md");
    private static final Path HERE = Path.of("src/test/java/ReadmeTests.java");

    private static int wrong = 0;

    public static void main(String[] args) throws Exception {
        String readme = Files.readString(README);
        example();
        sameLines(readme, Files.readString(HERE));
        everyCall(readme);
        System.out.println(wrong == 0 ? "README.md holds" : wrong + " faults in README.md");
        if (wrong != 0) {
            System.exit(1);
        }
    }

    private static void holds(String what, boolean it) {
        if (!it) {
            wrong++;
            System.out.println("README.md: " + what + " does not hold");
        }
    }

    private static void due(String what, long got, long want) {
        holds(what + " answers " + want + ", not " + got, got == want);
    }

    private static void example() {
        // The example begins.
        ContextCoder coder = new ContextCoder(2);
        for (char c : "abracadabra".toCharArray()) {
            coder.type(c);
        }
        int bytes = coder.encode();
        int cost = coder.cost();
        coder.forget();
        int length = coder.decode();
        coder.undo();
        coder.flip(1, 3);
        int failed = coder.decode();
        // The example ends.
        due("encode()", bytes, 10);
        due("cost()", cost, 4016988);
        due("decode()", length, 11);
        due("decode() of the damaged code", failed, -101);
    }

    private static void sameLines(String readme, String here) {
        List<String> shown = code(between(readme, "```java\n", "```"));
        List<String> run = code(between(here, "// The example begins.\n", "// The example ends."));
        holds("that the example has lines", shown.size() > 5);
        holds("that the lines " + shown + " are those that were run", shown.equals(run));
        for (String answer : new String[] {"// 10;", "// 4016988 ", "// 11;", "// -101:"}) {
            holds("that a comment tells " + answer, readme.contains(answer));
        }
    }

    private static String between(String text, String start, String end) {
        int from = text.indexOf(start);
        int to = from < 0 ? -1 : text.indexOf(end, from + start.length());
        return to < 0 ? "" : text.substring(from + start.length(), to);
    }

    private static List<String> code(String text) {
        List<String> lines = new ArrayList<>();
        for (String line : text.split("\n")) {
            String bare = line.replaceFirst("//.*", "").trim();
            if (!bare.isEmpty()) {
                lines.add(bare);
            }
        }
        return lines;
    }

    private static void everyCall(String readme) {
        Set<String> rows = new TreeSet<>();
        Set<String> acts = new TreeSet<>();
        for (String line : readme.split("\n")) {
            if (line.startsWith("| `")) {
                String call = between(line, "| `", "(");
                rows.add(call);
                if (line.contains(")` * |")) {
                    acts.add(call);
                }
            }
        }
        Set<String> calls = new TreeSet<>();
        for (Method method : ContextCoder.class.getDeclaredMethods()) {
            if (Modifier.isPublic(method.getModifiers())) {
                calls.add(method.getName());
            }
        }
        holds("that the calls " + rows + " are " + calls, rows.equals(calls));
        holds("that the acts are " + acts, acts.equals(actsByHistory()));
    }

    /** The calls behind which the history has a state more. */
    private static Set<String> actsByHistory() {
        Set<String> acts = new TreeSet<>();
        for (Method method : ContextCoder.class.getDeclaredMethods()) {
            if (Modifier.isPublic(method.getModifiers()) && !method.getName().equals("undo") && isAct(method)) {
                acts.add(method.getName());
            }
        }
        return acts;
    }

    private static boolean isAct(Method method) {
        ContextCoder coder = new ContextCoder(1);
        coder.encode();
        coder.forget();
        Class<?>[] types = method.getParameterTypes();
        Object[] arguments = new Object[types.length];
        for (int i = 0; i < types.length; i++) {
            arguments[i] = argument(method.getName(), types[i]);
        }
        try {
            method.invoke(coder, arguments);
        } catch (ReflectiveOperationException fault) {
            holds("that " + method + " answers", false);
        }
        return coder.undo() == 2;
    }

    // Every act takes a 1 here, but as a limit, which is at least 20.
    private static Object argument(String name, Class<?> type) {
        if (type == boolean.class) {
            return true;
        }
        return name.equals("setLimit") ? 100 : 1;
    }
}
