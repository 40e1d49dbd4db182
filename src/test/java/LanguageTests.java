import java.lang.reflect.Constructor;
import java.lang.reflect.Field;
import java.lang.reflect.Method;
import java.lang.reflect.Modifier;
import java.nio.file.Files;
import java.nio.file.Path;
import java.util.ArrayList;
import java.util.Arrays;
import java.util.List;
import java.util.Set;
import java.util.TreeSet;
import java.util.regex.Pattern;

/** What of ../shared/LANGUAGE.md can be seen from the source and the compiled class. */
public final class LanguageTests {
    private static final Path SOURCE = Path.of("src/main/java/ContextCoder.java");
    private static final String[] FORBIDDEN = {"throw", "throws", "try", "catch", "synchronized", "assert",
        "import", "package", "protected", "Object", "equals", "hashCode", "toString", "Random", "Thread",
        "volatile", "native", "var", "System\\.(?!arraycopy)\\w+", "->", "::", "@"};
    private static final String[] FACE = {"int setOrder(int)", "int setExclusion(boolean)", "int setStep(int)",
        "int setLimit(int)", "int forget()", "int learn()", "int contexts()", "int count(int,int)",
        "int weight(int)", "int price(int)", "int guess()", "int type(int)", "int remove(int)", "int encode()",
        "int bytes()", "int codeByte(int)", "int longestCarry()", "int decode()", "int decoded(int)",
        "int flip(int,int)", "int cut(int)", "int append(int)", "int coded()", "int account(int,int)",
        "int cost()", "int lg(int,int)", "int undo()", "long fingerprint()"};

    private static int wrong = 0;

    public static void main(String[] args) throws Exception {
        face();
        classes();
        source(Files.readString(SOURCE));
        System.out.println(wrong == 0 ? "the rules that can be seen are kept" : wrong + " faults");
        if (wrong != 0) {
            System.exit(1);
        }
    }

    private static void due(boolean kept, String what) {
        if (!kept) {
            wrong++;
            System.out.println("not kept: " + what);
        }
    }

    private static void face() {
        Set<String> found = new TreeSet<>();
        for (Method method : ContextCoder.class.getDeclaredMethods()) {
            if (Modifier.isPrivate(method.getModifiers())) {
                continue;
            }
            List<String> types = new ArrayList<>();
            for (Class<?> type : method.getParameterTypes()) {
                types.add(type.getSimpleName());
            }
            found.add(method.getReturnType() + " " + method.getName() + "(" + String.join(",", types) + ")");
            due(method.getModifiers() == Modifier.PUBLIC, method + " is public alone");
        }
        due(found.equals(new TreeSet<>(Arrays.asList(FACE))), "the face, not " + found);
        Constructor<?>[] constructors = ContextCoder.class.getDeclaredConstructors();
        due(constructors.length == 1 && Modifier.isPublic(constructors[0].getModifiers())
                && Arrays.equals(constructors[0].getParameterTypes(), new Class<?>[] {int.class}), "the constructor");
        Set<String> constants = new TreeSet<>();
        for (Field field : ContextCoder.class.getDeclaredFields()) {
            if (!Modifier.isPrivate(field.getModifiers())) {
                constants.add(field.getName());
            }
        }
        due(constants.equals(Set.of("BAD", "STATE", "FULL", "NONE")), "the constants, not " + constants);
        due(ContextCoder.class.getModifiers() == (Modifier.PUBLIC | Modifier.FINAL), "public and final");
    }

    private static void classes() {
        Set<String> names = new TreeSet<>();
        for (Method method : ContextCoder.class.getDeclaredMethods()) {
            if (Modifier.isPublic(method.getModifiers())) {
                names.add(method.getName());
            }
        }
        List<Class<?>> all = new ArrayList<>(Arrays.asList(ContextCoder.class.getDeclaredClasses()));
        due(all.size() < 12, "at most twelve classes");
        for (Class<?> inner : all) {
            due(Modifier.isStatic(inner.getModifiers()), inner + " is static");
        }
        all.add(ContextCoder.class);
        for (Class<?> one : all) {
            int fields = 0;
            for (Field field : one.getDeclaredFields()) {
                boolean constant = Modifier.isStatic(field.getModifiers());
                due(!constant || Modifier.isFinal(field.getModifiers()), field + " is final");
                fields += constant ? 0 : 1;
            }
            due(fields <= 20, "at most twenty fields in " + one);
            for (Method method : one.getDeclaredMethods()) {
                boolean ours = Modifier.isPublic(method.getModifiers());
                due(ours || !names.contains(method.getName()), method + " has a name of its own");
                due(method.getParameterCount() <= 7, method + " has at most seven parameters");
            }
        }
    }

    private static void source(String text) {
        String code = Pattern.compile("/\\*.*?\\*/|//[^\\n]*", Pattern.DOTALL).matcher(text).replaceAll("");
        for (String word : FORBIDDEN) {
            String edge = Character.isLetter(word.charAt(0)) ? "\\b" : "";
            due(!Pattern.compile(edge + word + edge).matcher(code).find(), "no " + word);
        }
        due(code.indexOf('"') < 0, "no texts");
        due(text.chars().allMatch(c -> c == '\n' || c >= 32 && c < 127), "plain signs");
        int start = 0;
        String[] lines = text.split("\n");
        for (int i = 0; i < lines.length; i++) {
            start = lines[i].isEmpty() ? i : start;
            boolean method = lines[i].equals("    }") || lines[i].equals("        }");
            due(!method || i - start <= 60, "short methods, line " + (i + 1));
            due(lines[i].length() <= 110, "short lines, line " + (i + 1));
        }
    }
}
