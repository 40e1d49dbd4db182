import java.lang.reflect.Method;
import java.util.HashMap;
import java.util.Map;
import java.util.Random;
import java.util.TreeMap;

/** Runs of calls from fixed seeds, answered by the program and by the reference alike. */
public final class ReferenceTests {
    private static final int CALLS = 512;
    private static final int RUNS = 260;
    private static final Map<String, Method> PROGRAM = methodsOf(ContextCoder.class);
    private static final Map<String, Method> REFERENCE = methodsOf(Reference.class);
    private static final String[] ASKED = {"fingerprint", "contexts", "coded", "bytes", "cost", "longestCarry"};

    private static int wrong = 0;
    // How often each kind of answer came, so that the runs can be seen to reach it.
    private static final Map<String, Integer> reached = new TreeMap<>();

    private final Random random;
    private final ContextCoder program;
    private final Reference reference;
    private final int run;
    private final int letters;
    private final StringBuilder story = new StringBuilder();
    private int calls = 0;
    private boolean failed = false;

    private ReferenceTests(int run) {
        this.run = run;
        random = new Random(run);
        int order = random.nextInt(6) - 1;
        letters = new int[] {1, 2, 3, 5, 12, 40, 95}[random.nextInt(7)];
        program = new ContextCoder(order);
        reference = new Reference(order);
        story.append("new(").append(order).append(")");
    }

    public static void main(String[] args) throws Exception {
        for (int run = 0; run < RUNS; run++) {
            new ReferenceTests(run).go();
        }
        for (String kind : new String[] {"encode -3", "decode -101", "decode -102", "decode -103", "decode ok",
                "type -3", "append -3", "cut -2", "undo -9", "count -9", "weight -9", "contexts 250",
                "carry 2", "carry 4", "nothing remains", "bytes 400", "undo 3"}) {
            if (reached.getOrDefault(kind, 0) < 1) {
                wrong++;
                System.out.println("no run reached: " + kind);
            }
        }
        System.out.println(reached + (wrong == 0 ? " program and reference agree" : wrong + " runs differ"));
        if (wrong != 0) {
            System.exit(1);
        }
    }

    private void go() throws Exception {
        switch (run % 13) {
            case 0: fullCode(); break;
            case 1: nothingRemains(); break;
            case 2: manyContexts(); break;
            case 3: fullRows(); break;
            default: break;
        }
        while (calls < CALLS && !failed) {
            if (random.nextInt(12) == 0) {
                thereAndBack();
            } else {
                any();
            }
        }
    }

    /** Heavy contexts that foretell the wrong symbols make a code of more than 400 bytes. */
    private void fullCode() throws Exception {
        call("setOrder", 1);
        call("setLimit", 1000);
        call("setStep", 10);
        learnOften(120, 60, 48);
        // One letter drives the others' counts at order 0 down to 1.
        learnOften(30, 1, 26);
        call("setStep", 1);
        for (int i = 0; i < 200; i++) {
            call("type", 40 + random.nextInt(60));
        }
        call("encode");
        for (int i = 0; i < 20; i++) {
            call("remove", 1 + random.nextInt(3));
            call("encode");
            if (random.nextBoolean()) {
                call("undo");
            }
        }
    }

    private void learnOften(int length, int kinds, int times) throws Exception {
        for (int i = 0; i < length; i++) {
            call("type", 40 + i % kinds);
        }
        for (int i = 0; i < times; i++) {
            call("learn");
        }
        call("remove", length);
    }

    /** A context that knows all symbols leaves none behind an escape, with exclusion on. */
    private void nothingRemains() throws Exception {
        call("setOrder", random.nextInt(2));
        call("setExclusion", 1);
        call("setLimit", 20 + random.nextInt(300));
        for (int i = 0; i < 190; i++) {
            call("type", 32 + i % 95);
        }
        call("learn");
        call("encode");
        for (int i = 0; i < 30; i++) {
            call("append", random.nextBoolean() ? 255 : random.nextInt(256));
            call("cut", random.nextInt(5));
            call("flip", random.nextInt(4), random.nextInt(8));
            call("decode");
        }
        call("cut", call("bytes"));
        for (int i = 0; i < 6; i++) {
            call("append", 255);
            if (call("decode") == -103) {
                note("nothing remains");
            }
        }
    }

    private void manyContexts() throws Exception {
        call("setOrder", 3);
        for (int part = 0; part < 2; part++) {
            for (int i = 0; i < 100; i++) {
                call("type", 32 + random.nextInt(60));
            }
            call("encode");
            call("forget");
            call("decode");
            call("learn");
        }
    }

    private void fullRows() throws Exception {
        for (int i = 0; i < 200; i++) {
            call("type", 32 + random.nextInt(letters));
        }
        call("type", 32);
        call("type", 31);
        call("encode");
        call("forget");
        call("decode");
        for (int i = 0; i < 230; i++) {
            call("append", 255 - random.nextInt(3));
        }
    }

    /** Encodes, goes back to the model from before, damages the code at times and decodes it. */
    private void thereAndBack() throws Exception {
        boolean learned = random.nextBoolean();
        call("forget");
        if (learned) {
            call("learn");
        }
        call("encode");
        call("forget");
        if (learned) {
            call("learn");
        }
        switch (random.nextInt(5)) {
            case 0: call("flip", random.nextInt(1 + Math.max(0, call("bytes"))), random.nextInt(8)); break;
            case 1: call("cut", 1 + random.nextInt(3)); break;
            case 2: call("append", random.nextInt(3)); break;
            default: break;
        }
        call("decode");
        call("decoded", random.nextInt(5));
    }

    private void any() throws Exception {
        switch (random.nextInt(40)) {
            case 0: call("setOrder", random.nextInt(6) - 1); break;
            case 1: case 2: call("setExclusion", random.nextInt(2)); break;
            case 3: call("setStep", random.nextInt(12)); break;
            case 4: call("setLimit", edgy(19, 1001)); break;
            case 5: if (random.nextInt(3) == 0) { call("forget"); } break;
            case 6: call("learn"); break;
            case 7: call("count", random.nextInt(6) - 1, edgy(-1, 96)); break;
            case 8: call("count", random.nextInt(4), random.nextInt(letters)); break;
            case 9: call("weight", random.nextInt(6) - 1); break;
            case 10: call("price", edgy(-1, 96)); break;
            case 11: call("price", random.nextInt(letters)); break;
            case 12: call("guess"); break;
            case 13: call("type", edgy(31, 127)); break;
            case 14: call("remove", random.nextInt(9) - 1); break;
            case 15: call("encode"); break;
            case 16: call("codeByte", random.nextInt(42) - 1); break;
            case 17: call("decode"); break;
            case 18: call("decoded", random.nextInt(22) - 1); break;
            case 19: call("flip", random.nextInt(12) - 1, random.nextInt(10) - 1); break;
            case 20: call("cut", random.nextInt(5) == 0 ? edgy(0, 401) : random.nextInt(4)); break;
            case 21: call("append", edgy(-1, 256)); break;
            case 22: call("account", random.nextInt(22) - 1, random.nextInt(6) - 1); break;
            case 23: call("account", random.nextInt(Math.max(1, call("coded"))), random.nextInt(4)); break;
            case 24: int total = edgy(0, 1000001); call("lg", edgy(0, total + 1), total); break;
            case 25: case 26: call("undo"); break;
            case 27: call(ASKED[random.nextInt(ASKED.length)]); break;
            default: call("type", 32 + random.nextInt(letters)); break;
        }
    }

    /** A number of the range; its ends, which are not allowed as arguments, more often. */
    private int edgy(int from, int to) {
        int kind = random.nextInt(12);
        return kind == 0 ? from : kind == 1 ? to : kind == 2 ? from + 1 : kind == 3 ? to - 1
                : from + random.nextInt(Math.max(1, to - from));
    }

    private int call(String name, int... numbers) throws Exception {
        if (calls >= CALLS || failed) {
            return 0;
        }
        long got = ask(PROGRAM.get(name), program, numbers);
        long want = ask(REFERENCE.get(name), reference, numbers);
        calls++;
        story.append(" ").append(name).append(java.util.Arrays.toString(numbers)).append("=").append(want);
        note(name + " " + (want < 0 && !name.equals("fingerprint") || name.equals("undo") ? want : "ok"));
        if (name.equals("encode") || name.equals("decode") || name.equals("learn")) {
            note(reference.contexts() == 250 ? "contexts 250" : "contexts fewer");
            note("carry " + reference.longestCarry());
        }
        note(reference.bytes() == 400 ? "bytes 400" : "bytes fewer");
        // What a call changes shows in the fingerprint and the rest that no call asks for.
        boolean same = got == want && program.fingerprint() == reference.fingerprint()
                && program.longestCarry() == reference.longestCarry();
        if (!same) {
            failed = true;
            wrong++;
            System.out.println("run " + run + ": " + name + " answered " + got + ", due is " + want + " after " + story);
        }
        return (int) want;
    }

    private static long ask(Method method, Object object, int[] numbers) throws Exception {
        Object[] arguments = new Object[numbers.length];
        for (int i = 0; i < numbers.length; i++) {
            arguments[i] = method.getParameterTypes()[i] == boolean.class ? (Object) (numbers[i] != 0) : (Object) numbers[i];
        }
        return ((Number) method.invoke(object, arguments)).longValue();
    }

    private static void note(String kind) {
        if (!kind.endsWith(" ok") || kind.startsWith("decode ")) {
            reached.merge(kind, 1, Integer::sum);
        }
    }

    private static Map<String, Method> methodsOf(Class<?> type) {
        Map<String, Method> found = new HashMap<>();
        for (Method method : type.getDeclaredMethods()) {
            boolean overloaded = method.getName().equals("lg") && method.getParameterCount() == 1
                    || method.getName().equals("cost") && method.getParameterCount() == 1;
            if (!overloaded) {
                found.put(method.getName(), method);
            }
        }
        return found;
    }
}
