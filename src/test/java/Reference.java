import java.math.BigInteger;
import java.util.ArrayDeque;
import java.util.ArrayList;
import java.util.Arrays;
import java.util.Deque;
import java.util.HashMap;
import java.util.HashSet;
import java.util.List;
import java.util.Map;
import java.util.Set;
import java.util.TreeMap;

/**
 * The document once more, slow and by other means than the program: contexts are texts in maps,
 * and the coder's low is one number of any length, so that carries come of themselves.
 */
final class Reference {
    private static final int BAD = -1;
    private static final int STATE = -2;
    private static final int FULL = -3;
    private static final int NONE = -9;
    private static final BigInteger WHOLE = BigInteger.ONE.shiftLeft(32);
    private static final BigInteger SMALL = BigInteger.ONE.shiftLeft(24);

    private World world = new World();
    private final Deque<World> past = new ArrayDeque<>();
    private String text = "";

    Reference(int order) {
        world.order = order < 0 ? 0 : order > 3 ? 3 : order;
    }

    int setOrder(int order) {
        if (order < 0 || order > 3) {
            return BAD;
        }
        act();
        int previous = world.order;
        world.order = order;
        world.model = new HashMap<>();
        return previous;
    }

    int setExclusion(boolean on) {
        act();
        boolean previous = world.exclusion;
        world.exclusion = on;
        return previous ? 1 : 0;
    }

    int setStep(int step) {
        if (step < 1 || step > 10) {
            return BAD;
        }
        act();
        int previous = world.step;
        world.step = step;
        return previous;
    }

    int setLimit(int limit) {
        if (limit < 20 || limit > 1000) {
            return BAD;
        }
        act();
        int previous = world.limit;
        world.limit = limit;
        return previous;
    }

    int forget() {
        act();
        int met = world.model.size();
        world.model = new HashMap<>();
        return met;
    }

    int learn() {
        act();
        for (int i = 0; i <= text.length(); i++) {
            world.increase(text.substring(0, i), i < text.length() ? text.charAt(i) - 32 : 95);
        }
        return world.model.size();
    }

    int contexts() {
        return world.model.size();
    }

    int count(int order, int symbol) {
        if (order < 0 || order > 3 || symbol < 0 || symbol > 95) {
            return BAD;
        }
        TreeMap<Integer, Integer> found = last(order);
        return found == null ? NONE : found.getOrDefault(symbol, 0);
    }

    int weight(int order) {
        if (order < 0 || order > 3) {
            return BAD;
        }
        TreeMap<Integer, Integer> found = last(order);
        return found == null ? NONE : sum(found);
    }

    int price(int symbol) {
        return symbol < 0 || symbol > 95 ? BAD : cost(world.intervals(text, symbol));
    }

    int guess() {
        int best = 95;
        for (int symbol = 94; symbol >= 0; symbol--) {
            best = price(symbol) <= price(best) ? symbol : best;
        }
        return best;
    }

    int type(int c) {
        if (c < 32 || c > 126) {
            return BAD;
        }
        if (text.length() == 200) {
            return FULL;
        }
        text += (char) c;
        return text.length();
    }

    int remove(int n) {
        if (n < 0) {
            return BAD;
        }
        text = n >= text.length() ? "" : text.substring(0, text.length() - n);
        return text.length();
    }

    int encode() {
        World after = world.copy();
        int[] code = after.code(text);
        if (code.length > 400) {
            return FULL;
        }
        act();
        world = after;
        world.code = code;
        return code.length;
    }

    int bytes() {
        return world.code.length;
    }

    int codeByte(int k) {
        return k < 0 || k >= world.code.length ? BAD : world.code[k];
    }

    int longestCarry() {
        return world.longest;
    }

    int decode() {
        World reader = world.copy();
        Arithmetic way = new Arithmetic();
        String found = "";
        while (true) {
            int symbol = reader.read(way, found);
            if (symbol < 0) {
                return -103;
            }
            if (symbol == 95) {
                break;
            }
            if (found.length() == 200) {
                return -101;
            }
            reader.increase(found, symbol);
            found += (char) (symbol + 32);
        }
        if (way.number(65536, world.code) != check(found)) {
            return -102;
        }
        World again = world.copy();
        if (!Arrays.equals(again.code(found), world.code)) {
            return -103;
        }
        act();
        world.model = again.model;
        world.decoded = found;
        return found.length();
    }

    int decoded(int k) {
        return k < 0 ? BAD : k >= world.decoded.length() ? NONE : world.decoded.charAt(k);
    }

    int flip(int k, int bit) {
        if (k < 0 || k >= world.code.length || bit < 0 || bit > 7) {
            return BAD;
        }
        act();
        world.code[k] ^= 1 << bit;
        return world.code[k];
    }

    int cut(int n) {
        if (n < 1 || n > 400) {
            return BAD;
        }
        if (world.code.length < n) {
            return STATE;
        }
        act();
        world.code = Arrays.copyOf(world.code, world.code.length - n);
        return world.code.length;
    }

    int append(int b) {
        if (b < 0 || b > 255) {
            return BAD;
        }
        if (world.code.length == 400) {
            return FULL;
        }
        act();
        world.code = Arrays.copyOf(world.code, world.code.length + 1);
        world.code[world.code.length - 1] = b;
        return world.code.length;
    }

    int coded() {
        return world.account.size();
    }

    int account(int k, int what) {
        boolean there = k >= 0 && k < world.account.size() && what >= 0 && what <= 3;
        return there ? world.account.get(k)[what] : BAD;
    }

    int cost() {
        return world.account.stream().mapToInt(entry -> entry[0]).sum();
    }

    int lg(int size, int total) {
        return total < 1 || total > 1000000 || size < 1 || size > total ? BAD : lg(total) - lg(size);
    }

    int undo() {
        if (past.isEmpty()) {
            return NONE;
        }
        world = past.removeLast();
        return past.size();
    }

    long fingerprint() {
        List<Integer> numbers = new ArrayList<>(List.of(world.order, world.exclusion ? 1 : 0,
                world.step, world.limit, contexts(), bytes()));
        Arrays.stream(world.code).forEach(numbers::add);
        numbers.addAll(List.of(coded(), cost(), world.decoded.length()));
        world.decoded.chars().forEach(numbers::add);
        BigInteger print = BigInteger.valueOf(67);
        for (int number : numbers) {
            print = print.multiply(BigInteger.valueOf(31)).add(BigInteger.valueOf(number));
        }
        return print.longValue();
    }

    private void act() {
        past.addLast(world.copy());
        if (past.size() > 4) {
            past.removeFirst();
        }
    }

    private TreeMap<Integer, Integer> last(int order) {
        return order > text.length() ? null : world.model.get(tail(text, order));
    }

    private static String tail(String history, int order) {
        return history.substring(history.length() - order);
    }

    private static int sum(Map<Integer, Integer> counts) {
        return counts.values().stream().mapToInt(Integer::intValue).sum();
    }

    private static int check(String found) {
        long s = 1;
        for (char c : found.toCharArray()) {
            s = (31 * s + c) % 65521;
        }
        return (int) s;
    }

    static int lg(int v) {
        int k = BigInteger.valueOf(v).bitLength() - 1;
        BigInteger x = BigInteger.valueOf(v).shiftLeft(30 - k);
        int result = 65536 * k;
        for (int i = 15; i >= 0; i--) {
            x = x.multiply(x).shiftRight(30);
            if (x.bitLength() > 31) {
                x = x.shiftRight(1);
                result += 1 << i;
            }
        }
        return result;
    }

    private static int cost(List<int[]> intervals) {
        return intervals.stream().mapToInt(i -> lg(i[2]) - lg(i[1] - i[0])).sum();
    }

    /** What a state holds, with the doings that need all of it. */
    private static final class World {
        int order = 0;
        boolean exclusion = false;
        int step = 1;
        int limit = 200;
        Map<String, TreeMap<Integer, Integer>> model = new HashMap<>();
        int[] code = new int[0];
        List<int[]> account = new ArrayList<>();
        int longest = 0;
        String decoded = "";

        World copy() {
            World twin = new World();
            twin.order = order;
            twin.exclusion = exclusion;
            twin.step = step;
            twin.limit = limit;
            model.forEach((context, counts) -> twin.model.put(context, new TreeMap<>(counts)));
            twin.code = code.clone();
            twin.account = new ArrayList<>(account);
            twin.longest = longest;
            twin.decoded = decoded;
            return twin;
        }

        void increase(String history, int symbol) {
            for (int j = 0; j <= Math.min(order, history.length()); j++) {
                String context = tail(history, j);
                if (!model.containsKey(context) && model.size() == 250) {
                    continue;
                }
                TreeMap<Integer, Integer> counts = model.computeIfAbsent(context, c -> new TreeMap<>());
                counts.merge(symbol, step, Integer::sum);
                if (sum(counts) > limit) {
                    counts.replaceAll((s, n) -> (n + 1) / 2);
                }
            }
        }

        /** The intervals of a symbol; the last one's fourth number is the order. */
        List<int[]> intervals(String history, int symbol) {
            List<int[]> intervals = new ArrayList<>();
            Set<Integer> excluded = new HashSet<>();
            for (int j = Math.min(order, history.length()); j >= 0; j--) {
                TreeMap<Integer, Integer> known = model.get(tail(history, j));
                if (known == null) {
                    continue;
                }
                TreeMap<Integer, Integer> open = new TreeMap<>(known);
                open.keySet().removeAll(excluded);
                int w = sum(open);
                int d = known.size();
                if (open.containsKey(symbol)) {
                    int c = sum(open.headMap(symbol));
                    intervals.add(new int[] {c, c + open.get(symbol), w + d, j});
                    return intervals;
                }
                intervals.add(new int[] {w, w + d, w + d, -2});
                if (exclusion) {
                    excluded.addAll(open.keySet());
                }
            }
            int r = symbol - (int) excluded.stream().filter(s -> s < symbol).count();
            intervals.add(new int[] {r, r + 1, 96 - excluded.size(), -1});
            return intervals;
        }

        int[] code(String characters) {
            Arithmetic coder = new Arithmetic();
            account = new ArrayList<>();
            for (int i = 0; i <= characters.length(); i++) {
                String history = characters.substring(0, i);
                int symbol = i < characters.length() ? characters.charAt(i) - 32 : 95;
                List<int[]> intervals = intervals(history, symbol);
                intervals.forEach(n -> coder.interval(n[0], n[1], n[2]));
                account.add(new int[] {cost(intervals), intervals.size() - 1,
                        intervals.get(intervals.size() - 1)[3], symbol});
                increase(history, symbol);
            }
            int s = check(characters);
            coder.interval(s, s + 1, 65536);
            int[] made = coder.finish();
            longest = coder.longest;
            return made;
        }

        /** Decodes a symbol; -1 if an escape leaves none. */
        int read(Arithmetic way, String history) {
            Set<Integer> excluded = new HashSet<>();
            for (int j = Math.min(order, history.length()); j >= 0; j--) {
                TreeMap<Integer, Integer> known = model.get(tail(history, j));
                if (known == null) {
                    continue;
                }
                TreeMap<Integer, Integer> open = new TreeMap<>(known);
                open.keySet().removeAll(excluded);
                int w = sum(open);
                int t = w + known.size();
                int number = way.number(t, code);
                for (int symbol : open.keySet()) {
                    int c = sum(open.headMap(symbol));
                    if (c <= number && number < c + open.get(symbol)) {
                        way.interval(c, c + open.get(symbol), t);
                        return symbol;
                    }
                }
                way.interval(w, t, t);
                if (exclusion) {
                    excluded.addAll(open.keySet());
                }
            }
            List<Integer> remaining = new ArrayList<>();
            for (int symbol = 0; symbol < 96; symbol++) {
                if (!excluded.contains(symbol)) {
                    remaining.add(symbol);
                }
            }
            if (remaining.isEmpty()) {
                return -1;
            }
            int number = way.number(remaining.size(), code);
            way.interval(number, number + 1, remaining.size());
            return remaining.get(number);
        }
    }

    /** The coder, with the bytes and its low as one number. */
    static final class Arithmetic {
        BigInteger all = BigInteger.ZERO;
        BigInteger range = WHOLE;
        int sent = 0;
        int longest = 0;

        void interval(int a, int b, int t) {
            BigInteger q = range.divide(BigInteger.valueOf(t));
            BigInteger skipped = q.multiply(BigInteger.valueOf(a));
            move(all.add(skipped));
            range = b == t ? range.subtract(skipped) : q.multiply(BigInteger.valueOf(b - a));
            while (range.compareTo(SMALL) <= 0) {
                all = all.shiftLeft(8);
                range = range.shiftLeft(8);
                sent++;
            }
        }

        private void move(BigInteger further) {
            int changed = 0;
            for (int k = 0; k < sent; k++) {
                changed += byteOf(all, k) == byteOf(further, k) ? 0 : 1;
            }
            longest = Math.max(longest, changed);
            all = further;
        }

        private int byteOf(BigInteger number, int k) {
            return number.shiftRight(8 * (sent + 3 - k)).intValue() & 255;
        }

        int number(int t, int[] code) {
            BigInteger value = BigInteger.ZERO;
            for (int k = 0; k < sent + 4; k++) {
                int b = k < code.length ? code[k] : 0;
                value = value.shiftLeft(8).add(BigInteger.valueOf(b));
            }
            BigInteger q = range.divide(BigInteger.valueOf(t));
            return value.subtract(all).mod(WHOLE).divide(q).min(BigInteger.valueOf(t - 1)).intValue();
        }

        int[] finish() {
            for (int z = 4;; z--) {
                BigInteger unit = BigInteger.ONE.shiftLeft(8 * z);
                BigInteger v = all.add(unit).subtract(BigInteger.ONE).divide(unit).multiply(unit);
                if (v.compareTo(all.add(range)) < 0) {
                    int before = longest;
                    BigInteger old = all;
                    move(v);
                    // Only what travels into the bytes sent before is a carry.
                    longest = old.shiftRight(32).equals(v.shiftRight(32)) ? before : longest;
                    int size = sent + 4 - z;
                    while (size > 0 && byteOf(v, size - 1) == 0) {
                        size--;
                    }
                    int[] made = new int[size];
                    for (int k = 0; k < size; k++) {
                        made[k] = byteOf(v, k);
                    }
                    return made;
                }
            }
        }
    }
}
