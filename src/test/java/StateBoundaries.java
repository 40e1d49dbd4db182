import java.util.ArrayList;
import java.util.List;
import java.util.function.Consumer;
import java.util.function.ToIntFunction;

/** The boundary cases of the history and of errors: what changes nothing, and what undo() restores. */
final class StateBoundaries {
    private static final int BAD = ContextCoder.BAD;
    private static final int STATE = ContextCoder.STATE;
    private static final int FULL = ContextCoder.FULL;
    private static final int NONE = ContextCoder.NONE;
    private static final int LEAST = Integer.MIN_VALUE;
    private static final int MOST = Integer.MAX_VALUE;

    private static final int NEW = 0;
    private static final int LIVELY = 1;
    private static final int FULL_TEXT = 2;
    private static final int FULL_CODE = 3;
    private static final int FULL_MODEL = 4;
    private static final int COSTLY = 5;
    private static final List<List<Long>> UNTOUCHED = new ArrayList<>();

    private StateBoundaries() {
    }

    static void run() {
        for (int n = NEW; n <= COSTLY; n++) {
            UNTOUCHED.add(told(world(n)));
        }
        wrongNumbersChangeNothing();
        missingPlacesChangeNothing();
        noRoomChangesNothing();
        failedCodesChangeNothing();
        noHistoryChangesNothing();
        askingChangesNothing();
        firstErrorIsReturned();
        everyActAddsAState();
        actsWithoutEffectAddAState();
        otherCallsAddNone();
        fourStatesAtMost();
        undoRestoresSettings();
        undoRestoresTheModel();
        undoRestoresTheCode();
        undoRestoresTheAccount();
        undoRestoresTheDecodedText();
        undoLeavesTheText();
        undoBehindUndo();
    }

    private static void says(String sentence) {
        Sentences.says(sentence);
    }

    private static void due(String what, long got, long want) {
        Sentences.due(what, got, want);
    }

    // ---- objects of all kinds, and what they tell

    private static ContextCoder world(int n) {
        switch (n) {
            case NEW:
                return new ContextCoder(2);
            case LIVELY:
                return lively();
            case FULL_TEXT:
                return fullText();
            case FULL_CODE:
                ContextCoder x = Coders.with(2, "ab");
                Coders.append(x, new int[400]);
                return x;
            case FULL_MODEL:
                return Coders.learned(3, Coders.run(32, 95));
            default:
                ContextCoder costly = new ContextCoder(1);
                Coders.makeCostly(costly);
                Coders.type(costly, Coders.costlyText(200));
                return costly;
        }
    }

    private static ContextCoder lively() {
        ContextCoder x = Coders.with(2, "banana");
        x.setExclusion(true);
        x.encode();
        x.forget();
        x.decode();
        x.append(9);
        x.flip(0, 1);
        x.type('x');
        return x;
    }

    private static ContextCoder fullText() {
        ContextCoder x = Coders.with(1, Coders.repeated("abbc", 50));
        x.setStep(10);
        x.encode();
        return x;
    }

    /** All that can be asked, then the states to go back to, and the text at last. */
    private static List<Long> told(ContextCoder x) {
        List<Long> all = new ArrayList<>();
        for (int order = 0; order <= 3; order++) {
            all.add((long) x.weight(order));
            all.add((long) x.count(order, 95));
        }
        for (int what = 0; what <= 3; what++) {
            all.add((long) x.account(0, what));
            all.add((long) x.account(x.coded() - 1, what));
        }
        all.add((long) x.price(0));
        all.add((long) x.price(95));
        all.add((long) x.guess());
        int left = 0;
        while (left != NONE) {
            all.add(x.fingerprint());
            all.add((long) x.longestCarry());
            all.add((long) x.weight(0));
            left = x.undo();
            all.add((long) left);
        }
        all.add((long) x.remove(0));
        x.forget();
        x.encode();
        all.add(x.fingerprint());
        return all;
    }

    private static void refused(String call, int error, ToIntFunction<ContextCoder> made, int... worlds) {
        for (int n : worlds) {
            ContextCoder x = world(n);
            due(call + " in world " + n, made.applyAsInt(x), error);
            Sentences.holds("that " + call + " changes nothing in world " + n, told(x).equals(UNTOUCHED.get(n)));
        }
    }

    private static void refusedEverywhere(String call, int error, ToIntFunction<ContextCoder> made) {
        refused(call, error, made, NEW, LIVELY, FULL_TEXT, FULL_CODE, FULL_MODEL, COSTLY);
    }

    // ---- errors

    private static void wrongNumbersChangeNothing() {
        says("A call that returns an error changes nothing.");
        for (int v : new int[] {LEAST, -2, -1}) {
            refusedEverywhere("setOrder(" + v + ")", BAD, x -> x.setOrder(v));
            refusedEverywhere("setStep(" + v + ")", BAD, x -> x.setStep(v));
            refusedEverywhere("setLimit(" + v + ")", BAD, x -> x.setLimit(v));
            refusedEverywhere("type(" + v + ")", BAD, x -> x.type(v));
            refusedEverywhere("remove(" + v + ")", BAD, x -> x.remove(v));
            refusedEverywhere("cut(" + v + ")", BAD, x -> x.cut(v));
            refusedEverywhere("append(" + v + ")", BAD, x -> x.append(v));
            refusedEverywhere("count(" + v + ", 0)", BAD, x -> x.count(v, 0));
            refusedEverywhere("count(0, " + v + ")", BAD, x -> x.count(0, v));
            refusedEverywhere("weight(" + v + ")", BAD, x -> x.weight(v));
            refusedEverywhere("price(" + v + ")", BAD, x -> x.price(v));
            refusedEverywhere("lg(1, " + v + ")", BAD, x -> x.lg(1, v));
            refusedEverywhere("lg(" + v + ", 1)", BAD, x -> x.lg(v, 1));
            refusedEverywhere("decoded(" + v + ")", BAD, x -> x.decoded(v));
        }
        for (int v : new int[] {1000001, MOST}) {
            refusedEverywhere("setOrder(" + v + ")", BAD, x -> x.setOrder(v));
            refusedEverywhere("setStep(" + v + ")", BAD, x -> x.setStep(v));
            refusedEverywhere("setLimit(" + v + ")", BAD, x -> x.setLimit(v));
            refusedEverywhere("type(" + v + ")", BAD, x -> x.type(v));
            refusedEverywhere("cut(" + v + ")", BAD, x -> x.cut(v));
            refusedEverywhere("append(" + v + ")", BAD, x -> x.append(v));
            refusedEverywhere("count(" + v + ", " + v + ")", BAD, x -> x.count(v, v));
            refusedEverywhere("weight(" + v + ")", BAD, x -> x.weight(v));
            refusedEverywhere("price(" + v + ")", BAD, x -> x.price(v));
            refusedEverywhere("lg(" + v + ", " + v + ")", BAD, x -> x.lg(v, v));
            refusedEverywhere("decoded(" + v + ")", NONE, x -> x.decoded(v));
        }
        justOutOfRange();
    }

    private static void justOutOfRange() {
        refusedEverywhere("setOrder(4)", BAD, x -> x.setOrder(4));
        refusedEverywhere("setStep(0)", BAD, x -> x.setStep(0));
        refusedEverywhere("setStep(11)", BAD, x -> x.setStep(11));
        refusedEverywhere("setLimit(19)", BAD, x -> x.setLimit(19));
        refusedEverywhere("setLimit(1001)", BAD, x -> x.setLimit(1001));
        refusedEverywhere("type(31)", BAD, x -> x.type(31));
        refusedEverywhere("type(127)", BAD, x -> x.type(127));
        refusedEverywhere("cut(0)", BAD, x -> x.cut(0));
        refusedEverywhere("cut(401)", BAD, x -> x.cut(401));
        refusedEverywhere("append(256)", BAD, x -> x.append(256));
        refusedEverywhere("count(4, 0)", BAD, x -> x.count(4, 0));
        refusedEverywhere("count(0, 96)", BAD, x -> x.count(0, 96));
        refusedEverywhere("weight(4)", BAD, x -> x.weight(4));
        refusedEverywhere("price(96)", BAD, x -> x.price(96));
        refusedEverywhere("lg(2, 1)", BAD, x -> x.lg(2, 1));
    }

    private static void missingPlacesChangeNothing() {
        says("A call that returns an error changes nothing.");
        for (int v : new int[] {LEAST, -1, 400, MOST}) {
            refusedEverywhere("codeByte(" + v + ")", BAD, x -> x.codeByte(v));
            refusedEverywhere("flip(" + v + ", 0)", BAD, x -> x.flip(v, 0));
            refusedEverywhere("flip(0, " + v + ")", BAD, x -> x.flip(0, v));
            refusedEverywhere("account(" + v + ", 0)", BAD, x -> x.account(v, 0));
            refusedEverywhere("account(0, " + v + ")", BAD, x -> x.account(0, v));
        }
        refusedEverywhere("flip(0, 8)", BAD, x -> x.flip(0, 8));
        refusedEverywhere("account(0, 4)", BAD, x -> x.account(0, 4));
        refusedEverywhere("codeByte(bytes())", BAD, x -> x.codeByte(x.bytes()));
        refusedEverywhere("flip(bytes(), 0)", BAD, x -> x.flip(x.bytes(), 0));
        refusedEverywhere("account(coded(), 3)", BAD, x -> x.account(x.coded(), 3));
        refusedEverywhere("decoded(200)", NONE, x -> x.decoded(200));
    }

    private static void noRoomChangesNothing() {
        says("A call that returns an error changes nothing.");
        refused("type('a')", FULL, x -> x.type('a'), FULL_TEXT, COSTLY);
        refused("append(0)", FULL, x -> x.append(0), FULL_CODE);
        refused("encode()", FULL, ContextCoder::encode, COSTLY);
        refused("cut(bytes() + 1)", STATE, x -> x.cut(x.bytes() + 1), NEW, LIVELY, FULL_TEXT, FULL_MODEL, COSTLY);
        refused("cut(400)", STATE, x -> x.cut(400), NEW, LIVELY, FULL_TEXT, FULL_MODEL, COSTLY);
    }

    private static void failedCodesChangeNothing() {
        says("a code that fails changes nothing.");
        refused("decode()", -101, ContextCoder::decode, NEW, FULL_CODE);
        // Why these fail is not counted out here; they fail, and do so twice alike.
        for (int n : new int[] {LIVELY, FULL_TEXT, FULL_MODEL, COSTLY}) {
            int answer = world(n).decode();
            Sentences.holds("that decode() fails in world " + n, answer <= -101 && answer >= -103);
            refused("decode()", answer, ContextCoder::decode, n);
        }
        failsAlike("another check", -102, 0xFD, 0x55, 0x78);
        failsAlike("another length", -103, 0xFD, 0x55, 0x58, 0);
        failsAlike("no end", -101, 0);
    }

    private static void failsAlike(String what, int error, int... code) {
        ContextCoder x = Coders.with(0, "ab");
        ContextCoder twin = Coders.with(0, "ab");
        for (ContextCoder one : new ContextCoder[] {x, twin}) {
            one.encode();
            one.forget();
            one.decode();
            one.forget();
            one.cut(one.bytes());
            Coders.append(one, code);
        }
        due(what, x.decode(), error);
        due("again", x.decode(), error);
        due("the decoded text stays", x.decoded(1), 'b');
        Sentences.holds("that decode() changes nothing", told(x).equals(told(twin)));
    }

    private static void noHistoryChangesNothing() {
        says("Returns how many states the history still has; NONE if it has none.");
        refused("undo()", NONE, ContextCoder::undo, NEW);
    }

    private static void askingChangesNothing() {
        says("Nothing is promised beyond the answers and state changes described above, "
                + "and nothing about an object after its 512th call.");
        List<Consumer<ContextCoder>> questions = List.of(ContextCoder::contexts, x -> x.count(0, 95),
                x -> x.count(3, 0), x -> x.weight(0), x -> x.weight(3), x -> x.price(0), x -> x.price(95),
                ContextCoder::guess, x -> x.remove(0), ContextCoder::bytes, x -> x.codeByte(0),
                ContextCoder::longestCarry, x -> x.decoded(0), ContextCoder::coded, x -> x.account(0, 0),
                ContextCoder::cost, x -> x.lg(1, 1000000), ContextCoder::fingerprint);
        for (int n = NEW; n <= COSTLY; n++) {
            ContextCoder x = world(n);
            for (Consumer<ContextCoder> question : questions) {
                question.accept(x);
            }
            Sentences.holds("that asking changes nothing in world " + n, told(x).equals(UNTOUCHED.get(n)));
        }
    }

    private static void firstErrorIsReturned() {
        says("If several errors apply to a call, the one listed first is returned.");
        refused("type(31) of a full text", BAD, x -> x.type(31), FULL_TEXT);
        refused("type(127) of a full text", BAD, x -> x.type(127), FULL_TEXT);
        refused("append(-1) to a full code", BAD, x -> x.append(-1), FULL_CODE);
        refused("append(256) to a full code", BAD, x -> x.append(256), FULL_CODE);
        refused("cut(401) of no bytes", BAD, x -> x.cut(401), NEW);
        refused("cut(0) of no bytes", BAD, x -> x.cut(0), NEW);
        refused("cut(401) of 400 bytes", BAD, x -> x.cut(401), FULL_CODE);
        refused("count(3, 96) of no text", BAD, x -> x.count(3, 96), NEW);
        refused("count(4, 0) of no text", BAD, x -> x.count(4, 0), NEW);
        refused("weight(4) of no text", BAD, x -> x.weight(4), NEW);
        refused("decoded(-1) of no text", BAD, x -> x.decoded(-1), NEW);
    }

    // ---- history

    /** The acts by numbers; the object is one of withCode(), so that each of them is possible. */
    private static int act(ContextCoder x, int number) {
        switch (number) {
            case 0: return x.setOrder(3);
            case 1: return x.setExclusion(true);
            case 2: return x.setStep(10);
            case 3: return x.setLimit(20);
            case 4: return x.forget();
            case 5: return x.learn();
            case 6: return x.encode();
            case 7: return x.decode();
            case 8: return x.flip(2, 7);
            case 9: return x.cut(1);
            default: return x.append(255);
        }
    }

    /** Three states stand in the history; the code is that of the empty text, the typed text is ab. */
    private static ContextCoder withCode() {
        ContextCoder x = Coders.with(0, "ab");
        Coders.append(x, 0xFD, 0x55, 0x58);
        return x;
    }

    private static void everyActAddsAState() {
        says("Each call described as an act that returns no error adds the state before it;");
        says("This is an act.");
        for (int number = 0; number <= 10; number++) {
            ContextCoder x = withCode();
            long print = x.fingerprint();
            Sentences.holds("that act " + number + " is possible", act(x, number) >= 0);
            long after = x.fingerprint();
            due("undo of act " + number, x.undo(), 3);
            due("the state before it", x.fingerprint(), print);
            act(x, number);
            due("act " + number + " again", x.fingerprint(), after);
            act(x, 5);
            due("the fifth state is dropped", x.undo(), 3);
            due("the state behind act " + number, x.fingerprint(), after);
        }
    }

    private static void actsWithoutEffectAddAState() {
        says("This is an act.");
        List<Consumer<ContextCoder>> acts = List.of(x -> x.setOrder(2), x -> x.setExclusion(false),
                x -> x.setStep(1), x -> x.setLimit(200), ContextCoder::forget);
        for (int n = 0; n < acts.size(); n++) {
            ContextCoder x = new ContextCoder(2);
            long print = x.fingerprint();
            acts.get(n).accept(x);
            due("nothing changes by act " + n, x.fingerprint(), print);
            due("but one state is there", x.undo(), 0);
            due("and no other", x.undo(), NONE);
        }
    }

    private static void otherCallsAddNone() {
        says("Each call described as an act that returns no error adds the state before it;");
        ContextCoder x = new ContextCoder(1);
        x.type('a');
        x.remove(1);
        x.remove(0);
        x.price(0);
        x.guess();
        x.fingerprint();
        x.decode();
        x.setOrder(4);
        x.setStep(0);
        x.setLimit(19);
        x.cut(1);
        x.append(256);
        x.flip(0, 0);
        due("no state", x.undo(), NONE);
        x.learn();
        x.undo();
        due("undo() adds none", x.undo(), NONE);
    }

    private static void fourStatesAtMost() {
        says("A history of at most 4 states is kept: the settings, the model, the code, the account "
                + "(with longestCarry()) and the decoded text.");
        for (int acts = 0; acts <= 9; acts++) {
            ContextCoder x = new ContextCoder(0);
            for (int i = 0; i < acts; i++) {
                x.append(i);
            }
            says("if there are 4 already, the oldest one is dropped.");
            int kept = Math.min(acts, 4);
            for (int left = kept - 1; left >= 0; left--) {
                due("undo behind " + acts, x.undo(), left);
                due("bytes", x.bytes(), acts - (kept - left));
            }
            due("no more", x.undo(), NONE);
            due("bytes", x.bytes(), acts - kept);
        }
    }

    private static void undoRestoresSettings() {
        says("undo() removes the latest one and restores it.");
        ContextCoder x = new ContextCoder(1);
        x.setOrder(3);
        x.setExclusion(true);
        x.setStep(10);
        x.setLimit(1000);
        due("limit", x.undo(), 3);
        due("step", x.undo(), 2);
        due("exclusion", x.undo(), 1);
        due("order", x.undo(), 0);
        due("the limit", x.setLimit(20), 200);
        due("the step", x.setStep(2), 1);
        due("exclusion", x.setExclusion(true), 0);
        due("the order", x.setOrder(0), 1);
    }

    private static void undoRestoresTheModel() {
        says("the settings, the model, the code, the account (with longestCarry()) and the decoded text.");
        List<Consumer<ContextCoder>> acts = List.of(x -> x.setOrder(0), ContextCoder::forget, ContextCoder::learn,
                ContextCoder::encode);
        for (Consumer<ContextCoder> act : acts) {
            ContextCoder x = Coders.with(3, "abcab");
            x.setStep(7);
            x.setLimit(20);
            x.learn();
            int weight = x.weight(0);
            int count = x.count(2, 'c' - 32);
            act.accept(x);
            due("undo", x.undo(), 3);
            due("contexts", x.contexts(), 10);
            due("weight", x.weight(0), weight);
            due("count", x.count(2, 'c' - 32), count);
            due("step", x.setStep(1), 7);
        }
    }

    private static void undoRestoresTheCode() {
        says("the settings, the model, the code, the account (with longestCarry()) and the decoded text.");
        ContextCoder x = new ContextCoder(0);
        Coders.append(x, new int[399]);
        x.append(5);
        x.cut(400);
        due("undo of cut()", x.undo(), 3);
        due("bytes", x.bytes(), 400);
        due("the last", x.codeByte(399), 5);
        x.flip(399, 0);
        x.encode();
        due("undo of encode()", x.undo(), 3);
        due("bytes", x.bytes(), 400);
        due("the last", x.codeByte(399), 4);
        due("undo of flip()", x.undo(), 2);
        due("the last", x.codeByte(399), 5);
        due("undo of append()", x.undo(), 1);
        due("bytes", x.bytes(), 399);
    }

    private static void undoRestoresTheAccount() {
        says("the settings, the model, the code, the account (with longestCarry()) and the decoded text.");
        ContextCoder x = Coders.with(1, "fhf");
        x.encode();
        int cost = x.cost();
        due("carry", x.longestCarry(), 2);
        Coders.retype(x, "f");
        x.forget();
        x.encode();
        due("another carry", x.longestCarry(), 0);
        due("another account", x.coded(), 2);
        due("undo", x.undo(), 2);
        due("carry", x.longestCarry(), 2);
        due("coded", x.coded(), 4);
        due("cost", x.cost(), cost);
        due("the second symbol", x.account(1, 3), 'h' - 32);
        due("undo", x.undo(), 1);
        due("undo", x.undo(), 0);
        due("no carry", x.longestCarry(), 0);
        due("no account", x.coded(), 0);
        due("no cost", x.cost(), 0);
    }

    private static void undoRestoresTheDecodedText() {
        says("the settings, the model, the code, the account (with longestCarry()) and the decoded text.");
        ContextCoder x = Coders.with(0, Coders.repeated("ab", 100));
        x.encode();
        x.forget();
        x.decode();
        due("the first", x.decoded(199), 'b');
        x.forget();
        x.remove(199);
        x.encode();
        x.forget();
        x.decode();
        due("the second", x.decoded(0), 'a');
        due("is shorter", x.decoded(1), NONE);
        due("undo", x.undo(), 3);
        due("the first again", x.decoded(199), 'b');
        due("and no more", x.decoded(200), NONE);
        due("its model is not", x.contexts(), 0);
    }

    private static void undoLeavesTheText() {
        says("the settings, the model, the code, the account (with longestCarry()) and the decoded text.");
        ContextCoder x = Coders.with(0, "ab");
        x.learn();
        x.type('c');
        x.undo();
        due("the text is in no state", x.remove(0), 3);
        x.learn();
        x.remove(2);
        x.undo();
        due("nor comes it back", x.remove(0), 1);
        x.encode();
        due("a", x.account(0, 3), 'a' - 32);
    }

    private static void undoBehindUndo() {
        says("undo() removes the latest one and restores it.");
        ContextCoder x = new ContextCoder(0);
        Coders.append(x, 1, 2, 3, 4);
        due("undo", x.undo(), 3);
        due("undo", x.undo(), 2);
        x.append(9);
        due("the third byte", x.codeByte(2), 9);
        due("undo", x.undo(), 2);
        due("bytes", x.bytes(), 2);
        due("undo", x.undo(), 1);
        due("undo", x.undo(), 0);
        due("bytes", x.bytes(), 0);
        due("undo", x.undo(), NONE);
        x.append(7);
        due("undo", x.undo(), 0);
    }
}
