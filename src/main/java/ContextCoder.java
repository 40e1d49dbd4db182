/**
 * A text coder: an adaptive model of contexts with escapes, and an arithmetic coder whose carries
 * travel back. ../shared/DOC.md says what every member answers.
 */
public final class ContextCoder {
    public static final int BAD = -1;
    public static final int STATE = -2;
    public static final int FULL = -3;
    public static final int NONE = -9;

    private static final int MAX_ORDER = 3;
    private static final int MAX_TEXT = 200;
    private static final int MAX_CODE = 400;
    private static final int MAX_CONTEXTS = 250;
    private static final int MAX_STATES = 4;
    private static final int MAX_STEP = 10;
    private static final int MIN_LIMIT = 20;
    private static final int MAX_LIMIT = 1000;
    private static final int MAX_TOTAL = 1000000;

    private static final int FIRST_CHARACTER = 32;
    private static final int LAST_CHARACTER = 126;
    private static final int CHARACTERS = 95;
    private static final int END = 95;
    private static final int SYMBOLS = 96;

    private static final int CHECKS = 65536;
    private static final int CHECK_MODULUS = 65521;

    private static final long WHOLE = 4294967296L;
    private static final long SMALL = 16777216L;

    // A symbol takes one interval at each order, and one where no order has coded it.
    private static final int MAX_INTERVALS = MAX_ORDER + 2;
    // The range is never 0, so four shifts always bring it above SMALL.
    private static final int MAX_SHIFTS = 4;
    // Bytes 0 are removed only at the very end, so more than MAX_CODE bytes must find room before.
    private static final int ENCODER_ROOM =
            ((MAX_TEXT + 1) * MAX_INTERVALS + 1) * MAX_SHIFTS + MAX_SHIFTS;

    private static final int TOO_LONG = 1;
    private static final int WRONG_CHECK = 2;
    private static final int WRONG_CODE = 3;

    private final State now;
    // Coding and decoding try everything here first, because a call that fails changes nothing.
    private final State trial;
    private final State[] past;
    private int kept;
    private final Row text;
    private final Candidates candidates;
    private final Route route;
    private final Encoder encoder;
    private final Decoder decoder;

    public ContextCoder(int order) {
        now = new State();
        trial = new State();
        past = new State[MAX_STATES];
        for (int i = 0; i < past.length; i++) {
            past[i] = new State();
        }
        kept = 0;
        text = new Row(MAX_TEXT);
        candidates = new Candidates();
        route = new Route();
        encoder = new Encoder();
        decoder = new Decoder();
        now.order = Math.max(0, Math.min(order, MAX_ORDER));
        now.step = 1;
        now.limit = 200;
    }

    // ---- settings, model

    public int setOrder(int order) {
        if (order < 0 || order > MAX_ORDER) {
            return BAD;
        }
        remember();
        int previous = now.order;
        now.order = order;
        now.model.clear();
        return previous;
    }

    public int setExclusion(boolean on) {
        remember();
        int previous = now.exclusion ? 1 : 0;
        now.exclusion = on;
        return previous;
    }

    public int setStep(int step) {
        if (step < 1 || step > MAX_STEP) {
            return BAD;
        }
        remember();
        int previous = now.step;
        now.step = step;
        return previous;
    }

    public int setLimit(int limit) {
        if (limit < MIN_LIMIT || limit > MAX_LIMIT) {
            return BAD;
        }
        remember();
        int previous = now.limit;
        now.limit = limit;
        return previous;
    }

    public int forget() {
        remember();
        int previous = contexts();
        now.model.clear();
        return previous;
    }

    public int learn() {
        remember();
        for (int i = 0; i < text.size; i++) {
            now.increase(text, i, text.item(i));
        }
        now.increase(text, text.size, END);
        return contexts();
    }

    public int contexts() {
        return now.model.met;
    }

    public int count(int order, int symbol) {
        if (order < 0 || order > MAX_ORDER || symbol < 0 || symbol >= SYMBOLS) {
            return BAD;
        }
        int row = lastContext(order);
        return row < 0 ? NONE : now.model.countIn(row, symbol);
    }

    public int weight(int order) {
        if (order < 0 || order > MAX_ORDER) {
            return BAD;
        }
        int row = lastContext(order);
        return row < 0 ? NONE : now.model.weightOf(row);
    }

    public int price(int symbol) {
        if (symbol < 0 || symbol >= SYMBOLS) {
            return BAD;
        }
        plan(now, text, text.size, symbol);
        return route.sumOfCosts();
    }

    public int guess() {
        int best = 0;
        int least = price(0);
        for (int symbol = 1; symbol < SYMBOLS; symbol++) {
            int found = price(symbol);
            if (found < least) {
                least = found;
                best = symbol;
            }
        }
        return best;
    }

    // ---- text

    public int type(int c) {
        if (c < FIRST_CHARACTER || c > LAST_CHARACTER) {
            return BAD;
        }
        if (text.size >= MAX_TEXT) {
            return FULL;
        }
        text.push(c - FIRST_CHARACTER);
        return text.size;
    }

    public int remove(int n) {
        if (n < 0) {
            return BAD;
        }
        text.drop(n);
        return text.size;
    }

    // ---- coding

    public int encode() {
        codeOnTrial(text);
        if (encoder.out.size > MAX_CODE) {
            return FULL;
        }
        remember();
        now.model.take(trial.model);
        now.ledger.take(trial.ledger);
        now.code.take(encoder.out);
        return now.code.size;
    }

    public int bytes() {
        return now.code.size;
    }

    public int codeByte(int k) {
        return now.code.has(k) ? now.code.item(k) : BAD;
    }

    public int longestCarry() {
        return now.ledger.longest;
    }

    public int decode() {
        int reason = readOnTrial();
        if (reason == 0) {
            codeOnTrial(trial.result);
            reason = encoder.out.same(now.code) ? 0 : WRONG_CODE;
        }
        if (reason != 0) {
            return -100 - reason;
        }
        remember();
        now.model.take(trial.model);
        now.result.take(trial.result);
        return now.result.size;
    }

    public int decoded(int k) {
        if (k < 0) {
            return BAD;
        }
        return now.result.has(k) ? now.result.item(k) + FIRST_CHARACTER : NONE;
    }

    // ---- damage

    public int flip(int k, int bit) {
        if (!now.code.has(k) || bit < 0 || bit > 7) {
            return BAD;
        }
        remember();
        now.code.put(k, now.code.item(k) ^ (1 << bit));
        return now.code.item(k);
    }

    public int cut(int n) {
        if (n < 1 || n > MAX_CODE) {
            return BAD;
        }
        if (n > now.code.size) {
            return STATE;
        }
        remember();
        now.code.drop(n);
        return now.code.size;
    }

    public int append(int b) {
        if (b < 0 || b > 255) {
            return BAD;
        }
        if (now.code.size >= MAX_CODE) {
            return FULL;
        }
        remember();
        now.code.push(b);
        return now.code.size;
    }

    // ---- the account of the latest encode()

    public int coded() {
        return now.ledger.symbols.size;
    }

    public int account(int k, int what) {
        if (!now.ledger.symbols.has(k)) {
            return BAD;
        }
        switch (what) {
            case 0:
                return now.ledger.costs.item(k);
            case 1:
                return now.ledger.escapes.item(k);
            case 2:
                return now.ledger.orders.item(k);
            case 3:
                return now.ledger.symbols.item(k);
            default:
                return BAD;
        }
    }

    public int cost() {
        int sum = 0;
        for (int k = 0; k < now.ledger.costs.size; k++) {
            sum += now.ledger.costs.item(k);
        }
        return sum;
    }

    public int lg(int size, int total) {
        if (total < 1 || total > MAX_TOTAL || size < 1 || size > total) {
            return BAD;
        }
        return intervalCost(size, total);
    }

    // ---- history

    public int undo() {
        if (kept < 1 || kept > past.length) {
            return NONE;
        }
        State latest = past[kept - 1];
        if (latest == null) {
            return NONE;
        }
        now.take(latest);
        kept--;
        return kept;
    }

    public long fingerprint() {
        long print = 67;
        print = 31 * print + now.order;
        print = 31 * print + (now.exclusion ? 1 : 0);
        print = 31 * print + now.step;
        print = 31 * print + now.limit;
        print = 31 * print + contexts();
        print = 31 * print + bytes();
        for (int k = 0; k < now.code.size; k++) {
            print = 31 * print + now.code.item(k);
        }
        print = 31 * print + coded();
        print = 31 * print + cost();
        print = 31 * print + now.result.size;
        for (int k = 0; k < now.result.size; k++) {
            print = 31 * print + now.result.item(k) + FIRST_CHARACTER;
        }
        return print;
    }

    // ---- the work behind the calls

    private void remember() {
        if (kept >= past.length) {
            rollPast();
        }
        if (kept < 0 || kept >= past.length) {
            return;
        }
        State free = past[kept];
        if (free != null) {
            free.take(now);
            kept++;
        }
    }

    // The oldest state's place becomes the free one, so that no new state has to be made.
    private void rollPast() {
        for (int i = 1; i < past.length; i++) {
            State moved = past[i - 1];
            past[i - 1] = past[i];
            past[i] = moved;
        }
        kept = past.length - 1;
    }

    private int lastContext(int order) {
        return order > text.size ? -1 : now.model.find(contextKey(text, text.size, order));
    }

    private void codeOnTrial(Row characters) {
        trial.takeSettings(now);
        trial.model.take(now.model);
        trial.ledger.clear();
        encoder.begin();
        for (int i = 0; i < characters.size; i++) {
            codeSymbol(characters, i, characters.item(i));
        }
        codeSymbol(characters, characters.size, END);
        int check = checkNumber(characters);
        encoder.interval(check, check + 1, CHECKS);
        encoder.finish();
        trial.ledger.longest = encoder.longest;
    }

    private void codeSymbol(Row characters, int at, int symbol) {
        plan(trial, characters, at, symbol);
        for (int i = 0; i < route.size(); i++) {
            encoder.interval(route.from.item(i), route.to.item(i), route.of.item(i));
        }
        trial.ledger.add(route.sumOfCosts(), route.size() - 1, route.order, symbol);
        trial.increase(characters, at, symbol);
    }

    /** Sets down the intervals that code a symbol behind the first characters of a text. */
    private void plan(State state, Row characters, int at, int symbol) {
        route.clear();
        candidates.restart();
        for (int order = Math.min(state.order, at); order >= 0; order--) {
            int row = state.model.find(contextKey(characters, at, order));
            if (row < 0) {
                continue;
            }
            int sum = candidates.sum(state.model, row);
            int total = sum + state.model.knownIn(row);
            if (candidates.holds(state.model, row, symbol)) {
                int from = candidates.sumBelow(state.model, row, symbol);
                route.add(from, from + state.model.countIn(row, symbol), total);
                route.order = order;
                return;
            }
            route.add(sum, total, total);
            candidates.leave(state, row);
        }
        int rank = candidates.remainingBelow(symbol);
        route.add(rank, rank + 1, candidates.remainingBelow(SYMBOLS));
        route.order = -1;
    }

    /** Decodes the code as far as the check number; the reason why that fails, or 0. */
    private int readOnTrial() {
        trial.takeSettings(now);
        trial.model.take(now.model);
        trial.result.clear();
        decoder.begin(now.code);
        for (int at = 0; at <= MAX_TEXT; at++) {
            int symbol = readSymbol(trial.result, at);
            if (symbol < 0) {
                return WRONG_CODE;
            }
            if (symbol == END) {
                return decoder.number(CHECKS) == checkNumber(trial.result) ? 0 : WRONG_CHECK;
            }
            trial.increase(trial.result, at, symbol);
            trial.result.push(symbol);
        }
        return TOO_LONG;
    }

    /** The next symbol of the code; -1 if an escape leaves none. */
    private int readSymbol(Row characters, int at) {
        Model model = trial.model;
        candidates.restart();
        for (int order = Math.min(trial.order, at); order >= 0; order--) {
            int row = model.find(contextKey(characters, at, order));
            if (row < 0) {
                continue;
            }
            int sum = candidates.sum(model, row);
            int total = sum + model.knownIn(row);
            int number = decoder.number(total);
            if (number < sum) {
                int symbol = candidates.symbolAt(model, row, number);
                int from = candidates.sumBelow(model, row, symbol);
                decoder.interval(from, from + model.countIn(row, symbol), total);
                return symbol;
            }
            decoder.interval(sum, total, total);
            candidates.leave(trial, row);
        }
        int remaining = candidates.remainingBelow(SYMBOLS);
        if (remaining < 1) {
            return -1;
        }
        int rank = decoder.number(remaining);
        decoder.interval(rank, rank + 1, remaining);
        return candidates.remainingAt(rank);
    }

    /** A number that tells a context from all others: a leading 1, then its characters as digits. */
    private static int contextKey(Row characters, int at, int order) {
        int key = 1;
        for (int i = at - order; i < at; i++) {
            key = key * CHARACTERS + characters.item(i);
        }
        return key;
    }

    private static int checkNumber(Row characters) {
        int check = 1;
        for (int i = 0; i < characters.size; i++) {
            check = (31 * check + characters.item(i) + FIRST_CHARACTER) % CHECK_MODULUS;
        }
        return check;
    }

    private static int intervalCost(int size, int total) {
        return logarithm(total) - logarithm(size);
    }

    private static int logarithm(int v) {
        if (v < 1) {
            return 0;
        }
        int k = 0;
        while (k < 30 && v >> (k + 1) > 0) {
            k++;
        }
        long x = (long) v << (30 - k);
        int sum = 65536 * k;
        for (int i = 15; i >= 0; i--) {
            x = (x * x) >> 30;
            if (x >= 1L << 31) {
                x = x >> 1;
                sum += 1 << i;
            }
        }
        return sum;
    }

    /** Numbers in a row, with room for a fixed number of them. */
    private static final class Row {
        private final int[] items;
        private int size;

        Row(int room) {
            items = new int[Math.max(0, room)];
            size = 0;
        }

        boolean has(int k) {
            return k >= 0 && k < size && k < items.length;
        }

        int item(int k) {
            return has(k) ? items[k] : 0;
        }

        void put(int k, int value) {
            if (has(k)) {
                items[k] = value;
            }
        }

        void push(int value) {
            if (size >= 0 && size < items.length) {
                items[size] = value;
                size++;
            }
        }

        void drop(int n) {
            size -= Math.max(0, Math.min(n, size));
        }

        void clear() {
            size = 0;
        }

        void take(Row other) {
            int n = Math.min(other.size, Math.min(other.items.length, items.length));
            System.arraycopy(other.items, 0, items, 0, n);
            size = n;
        }

        boolean same(Row other) {
            if (size != other.size) {
                return false;
            }
            for (int k = 0; k < size; k++) {
                if (item(k) != other.item(k)) {
                    return false;
                }
            }
            return true;
        }
    }

    /** The contexts that were met; each has a place for every symbol's count, 0 if not known. */
    private static final class Model {
        private int met;
        private final int[] keys = new int[MAX_CONTEXTS];
        // Weights and numbers of known symbols are kept, because every step of coding asks for them.
        private final int[] weights = new int[MAX_CONTEXTS];
        private final int[] known = new int[MAX_CONTEXTS];
        private final int[] counts = new int[MAX_CONTEXTS * SYMBOLS];

        // What the rows hold may stay: meet() wipes a row before it is used again.
        void clear() {
            met = 0;
        }

        void take(Model other) {
            met = Math.max(0, Math.min(other.met, MAX_CONTEXTS));
            System.arraycopy(other.keys, 0, keys, 0, met);
            System.arraycopy(other.weights, 0, weights, 0, met);
            System.arraycopy(other.known, 0, known, 0, met);
            System.arraycopy(other.counts, 0, counts, 0, met * SYMBOLS);
        }

        /** The context's row, or -1 if it was not met. */
        int find(int key) {
            for (int row = 0; row < met && row < keys.length; row++) {
                if (keys[row] == key) {
                    return row;
                }
            }
            return -1;
        }

        /** The context's row, or -1 if it was not met and there is no room for it. */
        int meet(int key) {
            int row = find(key);
            if (row >= 0 || met < 0 || met >= MAX_CONTEXTS) {
                return row;
            }
            row = met;
            met++;
            keys[row] = key;
            weights[row] = 0;
            known[row] = 0;
            for (int symbol = 0; symbol < SYMBOLS; symbol++) {
                counts[row * SYMBOLS + symbol] = 0;
            }
            return row;
        }

        private boolean has(int row) {
            return row >= 0 && row < met && row < MAX_CONTEXTS;
        }

        int countIn(int row, int symbol) {
            boolean there = row >= 0 && row < met && row < MAX_CONTEXTS
                    && symbol >= 0 && symbol < SYMBOLS;
            return there ? counts[row * SYMBOLS + symbol] : 0;
        }

        int weightOf(int row) {
            return has(row) ? weights[row] : 0;
        }

        int knownIn(int row) {
            return has(row) ? known[row] : 0;
        }

        void raise(int row, int symbol, int step, int limit) {
            if (!has(row) || symbol < 0 || symbol >= SYMBOLS) {
                return;
            }
            int place = row * SYMBOLS + symbol;
            if (counts[place] == 0) {
                known[row]++;
            }
            counts[place] += step;
            weights[row] += step;
            if (weights[row] > limit) {
                halve(row);
            }
        }

        private void halve(int row) {
            int sum = 0;
            for (int place = row * SYMBOLS; place < (row + 1) * SYMBOLS; place++) {
                counts[place] = (counts[place] + 1) / 2;
                sum += counts[place];
            }
            weights[row] = sum;
        }
    }

    /** What encode() tells of each symbol, and the longest carry. */
    private static final class Ledger {
        final Row costs = new Row(MAX_TEXT + 1);
        final Row escapes = new Row(MAX_TEXT + 1);
        final Row orders = new Row(MAX_TEXT + 1);
        final Row symbols = new Row(MAX_TEXT + 1);
        private int longest;

        void clear() {
            costs.clear();
            escapes.clear();
            orders.clear();
            symbols.clear();
            longest = 0;
        }

        void add(int spent, int escaped, int order, int symbol) {
            costs.push(spent);
            escapes.push(escaped);
            orders.push(order);
            symbols.push(symbol);
        }

        void take(Ledger other) {
            costs.take(other.costs);
            escapes.take(other.escapes);
            orders.take(other.orders);
            symbols.take(other.symbols);
            longest = other.longest;
        }
    }

    /** All that undo() restores. */
    private static final class State {
        private int order;
        private boolean exclusion;
        private int step;
        private int limit;
        final Model model = new Model();
        final Row code = new Row(MAX_CODE);
        final Ledger ledger = new Ledger();
        final Row result = new Row(MAX_TEXT);

        void take(State other) {
            takeSettings(other);
            model.take(other.model);
            code.take(other.code);
            ledger.take(other.ledger);
            result.take(other.result);
        }

        void takeSettings(State other) {
            order = other.order;
            exclusion = other.exclusion;
            step = other.step;
            limit = other.limit;
        }

        void increase(Row characters, int at, int symbol) {
            for (int j = 0; j <= order && j <= at; j++) {
                int row = model.meet(contextKey(characters, at, j));
                if (row >= 0) {
                    model.raise(row, symbol, step, limit);
                }
            }
        }
    }

    /** The symbols that can still be coded while one symbol's coding goes down the orders. */
    private static final class Candidates {
        private final boolean[] excluded = new boolean[SYMBOLS];
        private boolean untouched = true;

        void restart() {
            for (int symbol = 0; symbol < excluded.length && !untouched; symbol++) {
                excluded[symbol] = false;
            }
            untouched = true;
        }

        boolean remains(int symbol) {
            return symbol >= 0 && symbol < excluded.length && !excluded[symbol];
        }

        boolean holds(Model model, int row, int symbol) {
            return remains(symbol) && model.countIn(row, symbol) > 0;
        }

        int sum(Model model, int row) {
            return untouched ? model.weightOf(row) : sumBelow(model, row, SYMBOLS);
        }

        int sumBelow(Model model, int row, int symbol) {
            int sum = 0;
            for (int smaller = 0; smaller < symbol; smaller++) {
                if (remains(smaller)) {
                    sum += model.countIn(row, smaller);
                }
            }
            return sum;
        }

        int symbolAt(Model model, int row, int number) {
            int sum = 0;
            for (int symbol = 0; symbol < SYMBOLS; symbol++) {
                if (remains(symbol)) {
                    sum += model.countIn(row, symbol);
                }
                if (sum > number) {
                    return symbol;
                }
            }
            return -1;
        }

        /** Behind an escape; only with exclusion on does it end the chances of the context's symbols. */
        void leave(State state, int row) {
            if (!state.exclusion) {
                return;
            }
            for (int symbol = 0; symbol < excluded.length; symbol++) {
                excluded[symbol] = excluded[symbol] || state.model.countIn(row, symbol) > 0;
            }
            untouched = false;
        }

        int remainingBelow(int symbol) {
            int number = 0;
            for (int smaller = 0; smaller < symbol; smaller++) {
                if (remains(smaller)) {
                    number++;
                }
            }
            return number;
        }

        int remainingAt(int rank) {
            int number = 0;
            for (int symbol = 0; symbol < SYMBOLS; symbol++) {
                if (remains(symbol)) {
                    number++;
                }
                if (number > rank) {
                    return symbol;
                }
            }
            return -1;
        }
    }

    /** The intervals of one symbol: its escapes and its own, with the order of the latter. */
    private static final class Route {
        final Row from = new Row(MAX_INTERVALS);
        final Row to = new Row(MAX_INTERVALS);
        final Row of = new Row(MAX_INTERVALS);
        private int order;

        void clear() {
            from.clear();
            to.clear();
            of.clear();
            order = -1;
        }

        void add(int a, int b, int t) {
            from.push(a);
            to.push(b);
            of.push(t);
        }

        int size() {
            return of.size;
        }

        int sumOfCosts() {
            int sum = 0;
            for (int i = 0; i < of.size; i++) {
                sum += intervalCost(to.item(i) - from.item(i), of.item(i));
            }
            return sum;
        }
    }

    private static final class Encoder {
        private long low;
        private long range;
        final Row out = new Row(ENCODER_ROOM);
        private int longest;

        void begin() {
            low = 0;
            range = WHOLE;
            out.clear();
            longest = 0;
        }

        void interval(int a, int b, int t) {
            if (t < 1) {
                return;
            }
            long q = range / t;
            low += q * a;
            range = b < t ? q * (b - a) : range - q * a;
            if (low >= WHOLE) {
                low -= WHOLE;
                carry();
            }
            for (int i = 0; i < MAX_SHIFTS && range <= SMALL; i++) {
                out.push((int) (low / SMALL));
                low = low % SMALL * 256;
                range = range * 256;
            }
        }

        private void carry() {
            int changed = 0;
            boolean travels = true;
            for (int k = out.size - 1; k >= 0 && travels; k--) {
                travels = out.item(k) == 255;
                out.put(k, travels ? 0 : out.item(k) + 1);
                changed++;
            }
            longest = Math.max(longest, changed);
        }

        void finish() {
            int z = 4;
            while (z > 0 && leastMultiple(z) >= low + range) {
                z--;
            }
            long v = leastMultiple(z);
            if (v >= WHOLE) {
                carry();
                v = 0;
            }
            for (int i = 0; i < 4 - z; i++) {
                out.push((int) ((v >> (24 - 8 * i)) & 255));
            }
            for (int k = out.size - 1; k >= 0 && out.item(k) == 0; k--) {
                out.drop(1);
            }
        }

        /** The least multiple of 256^z that is at least low. */
        private long leastMultiple(int z) {
            long unit = 1L << (8 * z);
            return (low + unit - 1) & -unit;
        }
    }

    /** Goes the encoder's way; only the distance from its low to the code's value is needed. */
    private static final class Decoder {
        private Row code;
        private int next;
        private long distance;
        private long range;

        void begin(Row source) {
            code = source;
            next = 0;
            distance = 0;
            for (int i = 0; i < 4; i++) {
                shift();
            }
            range = WHOLE;
        }

        private void shift() {
            int b = code == null ? 0 : code.item(next);
            distance = (distance * 256 + b) % WHOLE;
            next++;
        }

        /** Which of t parts of the range the code's value lies in. */
        int number(int t) {
            long q = t < 1 ? 0 : range / t;
            return q < 1 ? 0 : (int) Math.min(t - 1, distance / q);
        }

        void interval(int a, int b, int t) {
            if (t < 1) {
                return;
            }
            long q = range / t;
            distance -= q * a;
            range = b < t ? q * (b - a) : range - q * a;
            for (int i = 0; i < MAX_SHIFTS && range <= SMALL; i++) {
                shift();
                range = range * 256;
            }
        }
    }
}
