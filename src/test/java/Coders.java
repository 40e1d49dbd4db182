import java.util.ArrayList;
import java.util.Arrays;
import java.util.List;

/** Objects made ready for the boundary tests, and codes made by hand from their intervals. */
final class Coders {
    /** Stands for the end in ofOrder0(). */
    static final String END = "" + (char) 127;

    private Coders() {
    }

    static ContextCoder with(int order, String text) {
        ContextCoder x = new ContextCoder(order);
        type(x, text);
        return x;
    }

    static void type(ContextCoder x, String text) {
        for (int i = 0; i < text.length(); i++) {
            x.type(text.charAt(i));
        }
    }

    static void retype(ContextCoder x, String text) {
        x.remove(200);
        type(x, text);
    }

    static ContextCoder learned(int order, String text) {
        ContextCoder x = with(order, text);
        x.learn();
        return x;
    }

    static void learnOften(ContextCoder x, int times) {
        for (int i = 0; i < times; i++) {
            x.learn();
        }
    }

    static void append(ContextCoder x, int... bytes) {
        for (int b : bytes) {
            x.append(b);
        }
    }

    static int[] code(ContextCoder x) {
        int[] bytes = new int[x.bytes()];
        for (int k = 0; k < bytes.length; k++) {
            bytes[k] = x.codeByte(k);
        }
        return bytes;
    }

    /** The code of intervals from a to b of t; by the reference's arithmetic, not the program's. */
    static int[] byHand(int[]... intervals) {
        Reference.Arithmetic coder = new Reference.Arithmetic();
        for (int[] interval : intervals) {
            coder.interval(interval[0], interval[1], interval[2]);
        }
        return coder.finish();
    }

    /**
     * The code of characters (and of the end, for the character 127) by a new object of order 0, and
     * of the intervals behind them.
     */
    static int[] ofOrder0(String characters, int[]... behind) {
        List<int[]> intervals = new ArrayList<>();
        int[] counts = new int[96];
        for (char character : characters.toCharArray()) {
            int symbol = character - 32;
            int w = Arrays.stream(counts).sum();
            int d = (int) Arrays.stream(counts).filter(n -> n > 0).count();
            int c = Arrays.stream(counts, 0, symbol).sum();
            if (counts[symbol] > 0) {
                intervals.add(new int[] {c, c + counts[symbol], w + d});
            } else {
                if (w > 0) {
                    intervals.add(new int[] {w, w + d, w + d});
                }
                intervals.add(new int[] {symbol, symbol + 1, 96});
            }
            counts[symbol]++;
            if (w + 1 > 200) {
                Arrays.setAll(counts, k -> (counts[k] + 1) / 2);
            }
        }
        intervals.addAll(Arrays.asList(behind));
        return byHand(intervals.toArray(new int[0][]));
    }

    static int check(String text) {
        int s = 1;
        for (int i = 0; i < text.length(); i++) {
            s = (31 * s + text.charAt(i)) % 65521;
        }
        return s;
    }

    static int[] checkOf(String text) {
        return checkOf(check(text));
    }

    static int[] checkOf(int s) {
        return new int[] {s, s + 1, 65536};
    }

    static String repeated(String part, int times) {
        return part.repeat(times);
    }

    /** The characters from the first on, as many as are told, each once. */
    static String run(int first, int number) {
        StringBuilder run = new StringBuilder();
        for (int i = 0; i < number; i++) {
            run.append((char) (first + i));
        }
        return run.toString();
    }

    /** A text after which "a", and after which order 0, know all 96 symbols. */
    static String aBeforeEach() {
        StringBuilder text = new StringBuilder("a");
        for (int c = 32; c <= 126; c++) {
            text.append((char) c);
            if (c != 'a') {
                text.append('a');
            }
        }
        return text.toString();
    }

    /** Order 1 foretells a wrong character each time, and order 0 "~" alone: about 16 bits each. */
    static void makeCostly(ContextCoder x) {
        x.setLimit(1000);
        x.setStep(10);
        retype(x, run(33, 71) + "!");
        learnOften(x, 24);
        retype(x, repeated("~", 20));
        learnOften(x, 8);
        x.remove(200);
        x.setStep(1);
    }

    /** Goes through 71 characters by steps of 4, then 5, then 6, so that no pair comes again. */
    static String costlyText(int length) {
        StringBuilder text = new StringBuilder();
        int c = 0;
        for (int i = 0; i < length; i++) {
            text.append((char) (33 + c));
            c = (c + 4 + i / 71) % 71;
        }
        return text.toString();
    }
}
