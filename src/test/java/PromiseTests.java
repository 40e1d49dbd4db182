/** Each promise of the document by ordinary inputs, the edges that it names, and wrong inputs. */
public final class PromiseTests {
    private static final int BAD = ContextCoder.BAD;
    private static final int STATE = ContextCoder.STATE;
    private static final int FULL = ContextCoder.FULL;
    private static final int NONE = ContextCoder.NONE;
    private static final int LEAST = Integer.MIN_VALUE;
    private static final int MOST = Integer.MAX_VALUE;

    private static int wrong = 0;
    private static int promise = 0;

    public static void main(String[] args) {
        constants();
        newObject();
        setOrder();
        setExclusion();
        setStep();
        setLimit();
        forget();
        learn();
        contexts();
        count();
        weight();
        price();
        guess();
        type();
        remove();
        encode();
        encodeFull();
        encodeToNothing();
        lowMeetsTheWhole();
        bytes();
        codeByte();
        longestCarry();
        decode();
        decodeFailures();
        decodeOfNothing();
        rangeMeetsTheLeast();
        decoded();
        flip();
        cut();
        append();
        coded();
        account();
        accountOfAFullText();
        cost();
        lg();
        undo();
        undoOfEveryAct();
        fingerprint();
        System.out.println(wrong == 0 ? "all promises hold" : wrong + " answers are not as due");
        if (wrong != 0) {
            System.exit(1);
        }
    }

    private static void due(String what, long got, long want) {
        if (got != want) {
            wrong++;
            System.out.println("promise " + promise + ": " + what + " answered " + got + ", due is " + want);
        }
    }

    private static ContextCoder with(int order, String text) {
        ContextCoder x = new ContextCoder(order);
        typeAll(x, text);
        return x;
    }

    private static void typeAll(ContextCoder x, String text) {
        for (char c : text.toCharArray()) {
            x.type(c);
        }
    }

    private static void constants() {
        due("BAD", BAD, -1);
        due("STATE", STATE, -2);
        due("FULL", FULL, -3);
        due("NONE", NONE, -9);
    }

    private static void newObject() {
        promise = 1;
        int[][] orders = {{LEAST, 0}, {-1, 0}, {0, 0}, {1, 1}, {2, 2}, {3, 3}, {4, 3}, {MOST, 3}};
        for (int[] order : orders) {
            ContextCoder x = new ContextCoder(order[0]);
            due("contexts", x.contexts(), 0);
            due("bytes", x.bytes(), 0);
            due("coded", x.coded(), 0);
            due("cost", x.cost(), 0);
            due("longestCarry", x.longestCarry(), 0);
            due("decoded(0)", x.decoded(0), NONE);
            due("text", x.remove(0), 0);
            due("undo", x.undo(), NONE);
            due("order", x.setOrder(0), order[1]);
            due("exclusion", x.setExclusion(true), 0);
            due("step", x.setStep(2), 1);
            due("limit", x.setLimit(20), 200);
        }
    }

    private static void setOrder() {
        promise = 2;
        ContextCoder x = with(2, "abc");
        due("learn", x.learn(), 6);
        due("setOrder(-1)", x.setOrder(-1), BAD);
        due("setOrder(4)", x.setOrder(4), BAD);
        due("setOrder(LEAST)", x.setOrder(LEAST), BAD);
        due("contexts after errors", x.contexts(), 6);
        due("setOrder(2) of 2", x.setOrder(2), 2);
        due("contexts", x.contexts(), 0);
        due("undo", x.undo(), 1);
        due("contexts back", x.contexts(), 6);
        due("setOrder(0)", x.setOrder(0), 2);
        due("learn at 0", x.learn(), 1);
        due("setOrder(3)", x.setOrder(3), 0);
        // The orders 0, 1, 2, 3 have 1, 3, 2 and 1 contexts.
        due("learn at 3", x.learn(), 7);
        due("the text stays", x.remove(0), 3);
    }

    private static void setExclusion() {
        promise = 3;
        ContextCoder x = with(1, "aa");
        x.learn();
        // Order 1 knows a and the end, and order 0 too: b costs lg(4) - lg(2), lg(5) - lg(2) and the rest.
        due("price off", x.price(66), 65536 + x.lg(2, 5) + x.lg(1, 96));
        due("on", x.setExclusion(true), 0);
        due("price on", x.price(66), 65536 + x.lg(1, 94));
        due("on again", x.setExclusion(true), 1);
        due("off", x.setExclusion(false), 1);
        due("off again", x.setExclusion(false), 0);
        due("undo", x.undo(), 3);
        due("undo", x.undo(), 2);
        due("on by undo", x.setExclusion(false), 1);
    }

    private static void setStep() {
        promise = 4;
        ContextCoder x = with(0, "a");
        due("setStep(0)", x.setStep(0), BAD);
        due("setStep(11)", x.setStep(11), BAD);
        due("setStep(-1)", x.setStep(-1), BAD);
        due("no act", x.undo(), NONE);
        due("setStep(10)", x.setStep(10), 1);
        x.learn();
        due("a new symbol's count", x.count(0, 65), 10);
        due("setStep(1)", x.setStep(1), 10);
        x.learn();
        due("a known symbol's count", x.count(0, 65), 11);
        due("undo", x.undo(), 3);
        due("undo", x.undo(), 2);
        due("step", x.setStep(4), 10);
    }

    private static void setLimit() {
        promise = 5;
        ContextCoder x = with(0, "");
        due("setLimit(19)", x.setLimit(19), BAD);
        due("setLimit(1001)", x.setLimit(1001), BAD);
        due("setLimit(-1)", x.setLimit(-1), BAD);
        due("no act", x.undo(), NONE);
        due("setLimit(20)", x.setLimit(20), 200);
        x.setStep(10);
        x.learn();
        x.learn();
        due("a weight of the limit stays", x.weight(0), 20);
        x.setStep(1);
        x.learn();
        due("a weight above it is halved, upward", x.weight(0), 11);
        due("setLimit(1000)", x.setLimit(1000), 20);
        x.setStep(10);
        for (int i = 0; i < 98; i++) {
            x.learn();
        }
        due("weight", x.weight(0), 991);
        x.learn();
        due("halved", x.weight(0), 501);
        due("setLimit(21)", x.setLimit(21), 1000);
        due("the limit alone changes no count", x.weight(0), 501);
        x.learn();
        due("halved once, though still above", x.weight(0), 256);
    }

    private static void forget() {
        promise = 6;
        ContextCoder x = with(1, "ab");
        due("nothing met", x.forget(), 0);
        x.learn();
        due("met", x.forget(), 3);
        due("then", x.contexts(), 0);
        due("count", x.count(0, 65), NONE);
        due("undo", x.undo(), 2);
        due("back", x.contexts(), 3);
        due("count back", x.count(0, 65), 1);
        x.forget();
        x.learn();
        due("no counts from before", x.count(0, 65), 1);
    }

    private static void learn() {
        promise = 7;
        ContextCoder x = new ContextCoder(3);
        due("an empty text", x.learn(), 1);
        due("the end's count", x.count(0, 95), 1);
        typeAll(x, "abab");
        // Of order 1 a and b, of order 2 ab and ba, of order 3 aba and bab.
        due("learn", x.learn(), 7);
        due("the text stays", x.remove(0), 4);
        due("a at 0", x.count(0, 65), 2);
        due("the end at 0", x.count(0, 95), 2);
        due("a behind b", x.count(1, 65), 1);
        due("the end behind b", x.count(1, 95), 1);
        due("the end behind bab", x.count(3, 95), 1);
        due("no code", x.bytes(), 0);
        due("no account", x.coded(), 0);
        due("learn again", x.learn(), 7);
        due("a behind b again", x.count(1, 65), 2);
        due("undo", x.undo(), 2);
        due("a behind b, undone", x.count(1, 65), 1);
    }

    private static void contexts() {
        promise = 8;
        ContextCoder x = new ContextCoder(3);
        due("new", x.contexts(), 0);
        for (int i = 0; i < 83; i++) {
            x.type(32 + i);
        }
        // 1 of order 0, 83 of order 1, 82 of order 2, 81 of order 3.
        due("learn", x.learn(), 247);
        x.remove(200);
        typeAll(x, "~|~");
        // Of | behind ~ order 1 is new, then | and ~|: these make 250, and ~|~ stays out.
        due("learn", x.learn(), 250);
        due("contexts", x.contexts(), 250);
        due("not met", x.count(3, 95), NONE);
        due("not met", x.weight(2), NONE);
        due("met before", x.count(1, 95), 1);
        x.remove(1);
        due("the last that was met", x.count(2, 94), 1);
        x.setStep(5);
        x.learn();
        due("known contexts go on", x.count(2, 95), 5);
        due("no more than 250", x.contexts(), 250);
    }

    private static void count() {
        promise = 9;
        ContextCoder x = with(2, "abcab");
        due("not met", x.count(0, 65), NONE);
        x.learn();
        due("order -1", x.count(-1, 0), BAD);
        due("order 4", x.count(4, 0), BAD);
        due("symbol -1", x.count(0, -1), BAD);
        due("symbol 96", x.count(0, 96), BAD);
        due("a", x.count(0, 65), 2);
        due("c", x.count(0, 67), 1);
        due("the end", x.count(0, 95), 1);
        due("not known", x.count(0, 0), 0);
        due("c behind b", x.count(1, 67), 1);
        due("c behind ab", x.count(2, 67), 1);
        due("a behind ab", x.count(2, 65), 0);
        due("above the order", x.count(3, 67), NONE);
        x.remove(4);
        due("longer than the text", x.count(2, 67), NONE);
        due("b behind a", x.count(1, 66), 2);
        x.remove(1);
        due("longer than no text", x.count(1, 66), NONE);
        due("order 0 of no text", x.count(0, 66), 2);
        due("bad before none", x.count(3, 96), BAD);
    }

    private static void weight() {
        promise = 10;
        ContextCoder x = with(2, "abcab");
        due("not met", x.weight(0), NONE);
        x.setStep(3);
        x.learn();
        due("order -1", x.weight(-1), BAD);
        due("order 4", x.weight(4), BAD);
        due("order 0", x.weight(0), 18);
        due("order 1", x.weight(1), 6);
        due("order 2", x.weight(2), 6);
        due("above the order", x.weight(3), NONE);
        x.remove(5);
        due("longer than the text", x.weight(1), NONE);
    }

    private static void price() {
        promise = 11;
        ContextCoder x = new ContextCoder(3);
        due("price(-1)", x.price(-1), BAD);
        due("price(96)", x.price(96), BAD);
        due("of an empty model", x.price(0), x.lg(1, 96));
        due("of an empty model", x.price(95), x.lg(1, 96));
        typeAll(x, "aab");
        x.learn();
        x.remove(1);
        // Behind aa: order 2 knows b; behind a: a and b; order 0: a twice, b, the end.
        due("at order 2", x.price(66), x.lg(1, 2));
        due("one escape", x.price(65), x.lg(1, 2) + x.lg(1, 4));
        due("two escapes", x.price(95), x.lg(1, 2) + x.lg(2, 4) + x.lg(1, 7));
        due("at none", x.price(0), x.lg(1, 2) + x.lg(2, 4) + x.lg(3, 7) + x.lg(1, 96));
        x.setExclusion(true);
        due("b excluded", x.price(65), x.lg(1, 2) + x.lg(1, 3));
        due("a and b excluded", x.price(95), x.lg(1, 2) + x.lg(2, 3) + x.lg(1, 4));
        due("93 remain", x.price(0), x.lg(1, 2) + x.lg(2, 3) + x.lg(3, 4) + x.lg(1, 93));
        due("no act", x.undo(), 1);
    }

    private static void guess() {
        promise = 12;
        ContextCoder x = new ContextCoder(1);
        due("all are equal", x.guess(), 0);
        typeAll(x, "abba");
        x.learn();
        // Behind a: b and the end, once each.
        due("the smaller of two", x.guess(), 66);
        x.remove(1);
        due("behind b", x.guess(), 65);
        x.remove(2);
        x.remove(1);
        due("order 0", x.guess(), 65);
        x.setStep(10);
        x.learn();
        due("the end", x.guess(), 95);
    }

    private static void type() {
        promise = 13;
        ContextCoder x = new ContextCoder(1);
        due("type(31)", x.type(31), BAD);
        due("type(127)", x.type(127), BAD);
        due("type(-1)", x.type(-1), BAD);
        due("type(32)", x.type(32), 1);
        due("type(126)", x.type(126), 2);
        for (int i = 3; i <= 200; i++) {
            due("type", x.type(65), i);
        }
        due("the 201st", x.type(65), FULL);
        due("bad before full", x.type(31), BAD);
        due("length", x.remove(0), 200);
        due("no act", x.undo(), NONE);
    }

    private static void remove() {
        promise = 14;
        ContextCoder x = with(1, "abcde");
        due("remove(-1)", x.remove(-1), BAD);
        due("remove(LEAST)", x.remove(LEAST), BAD);
        due("remove(0)", x.remove(0), 5);
        due("remove(2)", x.remove(2), 3);
        due("type", x.type('x'), 4);
        x.learn();
        due("the end behind x", x.count(1, 95), 1);
        due("remove(1)", x.remove(1), 3);
        due("x behind c", x.count(1, 'x' - 32), 1);
        due("remove(MOST)", x.remove(MOST), 0);
        due("remove(1) of none", x.remove(1), 0);
        due("undo leaves the text", x.undo(), 0);
        due("text", x.remove(0), 0);
    }

    private static void encode() {
        promise = 15;
        // q = 44739242; low = 95 q = 4250227990 = 0xFD555516, range = 44739306; then the check 1
        // of 65536: q = 682, low = 0xFD5557C0, range 682 and twice * 256, so two bytes go out.
        ContextCoder x = new ContextCoder(0);
        due("an empty text", x.encode(), 3);
        due("byte 0", x.codeByte(0), 0xFD);
        due("byte 1", x.codeByte(1), 0x55);
        due("byte 2", x.codeByte(2), 0x58);
        due("the model goes on", x.contexts(), 1);
        // The end is known now and as likely as an escape: low = 0, range = 2147483648; the check:
        // q = 32768 = low, range twice * 256 behind two bytes 0, low = 2147483648 = 128 * 256^3.
        due("again", x.encode(), 3);
        due("byte 0", x.codeByte(0), 0);
        due("byte 1", x.codeByte(1), 0);
        due("byte 2", x.codeByte(2), 128);
        due("weight", x.weight(0), 2);
        typeAll(x, "a");
        x.setStep(3);
        x.encode();
        due("the model has learned a", x.count(0, 65), 3);
        due("and the end", x.count(0, 95), 5);
        due("the text stays", x.remove(0), 1);
        due("the account is replaced", x.coded(), 2);
        due("the decoded text is not", x.decoded(0), NONE);
        int size = x.bytes();
        x.remove(1);
        x.encode();
        due("undo", x.undo(), 3);
        due("the code before", x.bytes(), size);
        due("the account before", x.coded(), 2);
        due("the model before", x.count(0, 95), 5);
    }

    /** Order 1 foretells wrongly and order 0 knows one letter alone: about 18 bits a character. */
    private static ContextCoder costly() {
        ContextCoder x = new ContextCoder(1);
        x.setLimit(1000);
        x.setStep(10);
        learnOften(x, 120, 60, 48);
        learnOften(x, 30, 1, 26);
        x.setStep(1);
        long seed = 1;
        for (int i = 0; i < 200; i++) {
            seed = (seed * 1103515245 + 12345) % 2147483648L;
            x.type(40 + (int) (seed / 65536 % 60));
        }
        return x;
    }

    private static void learnOften(ContextCoder x, int length, int kinds, int times) {
        for (int i = 0; i < length; i++) {
            x.type(40 + i % kinds);
        }
        for (int i = 0; i < times; i++) {
            x.learn();
        }
        x.remove(length);
    }

    private static void encodeFull() {
        ContextCoder x = costly();
        long print = x.fingerprint();
        due("more than 400 bytes", x.encode(), FULL);
        due("nothing changes", x.fingerprint(), print);
        due("no carry", x.longestCarry(), 0);
        due("no act", x.undo(), 3);
        x.setStep(1);
        int size = FULL;
        for (int i = 0; i < 60 && size == FULL; i++) {
            due("shorter", x.remove(1), 199 - i);
            size = x.encode();
        }
        due("at most 400", size > 390 && size <= 400 ? 1 : 0, 1);
        due("bytes", x.bytes(), size);
    }

    /** The check number of this text is 0, and every symbol's interval begins at 0: all bytes are 0. */
    private static void encodeToNothing() {
        ContextCoder x = with(3, "lwot");
        x.learn();
        due("no bytes remain", x.encode(), 0);
        due("bytes", x.bytes(), 0);
        due("byte 0", x.codeByte(0), BAD);
        due("coded", x.coded(), 5);
    }

    /**
     * Behind b, an eighth of the whole and somewhat more, the intervals of c to m are the middle half
     * each, and that of the end begins in the middle, which then is 4294967296 exactly: it carries.
     */
    private static void lowMeetsTheWhole() {
        ContextCoder x = new ContextCoder(1);
        Reference y = new Reference(1);
        x.setStep(2);
        y.setStep(2);
        String chain = "bcdefghijklm";
        for (String text : new String[] {"b!c!d!e!f!g!h!i!j!k!l!m!m!m!", chain, chain, "!", chain}) {
            x.remove(200);
            y.remove(200);
            for (char c : text.toCharArray()) {
                x.type(c);
                y.type(c);
            }
            x.learn();
            y.learn();
        }
        x.undo();
        y.undo();
        due("encode", x.encode(), y.encode());
        for (int k = 0; k < x.bytes(); k++) {
            due("codeByte", x.codeByte(k), y.codeByte(k));
        }
        due("longestCarry", x.longestCarry(), 1);
        due("of the reference", y.longestCarry(), 1);
    }

    private static void bytes() {
        promise = 16;
        ContextCoder x = new ContextCoder(0);
        due("new", x.bytes(), 0);
        x.encode();
        due("encoded", x.bytes(), 3);
        x.append(9);
        due("appended", x.bytes(), 4);
        x.cut(2);
        due("cut", x.bytes(), 2);
        x.undo();
        due("undone", x.bytes(), 4);
    }

    private static void codeByte() {
        promise = 17;
        ContextCoder x = new ContextCoder(0);
        due("of none", x.codeByte(0), BAD);
        x.append(0);
        x.append(255);
        x.append(128);
        due("0", x.codeByte(0), 0);
        due("1", x.codeByte(1), 255);
        due("2", x.codeByte(2), 128);
        due("3", x.codeByte(3), BAD);
        due("-1", x.codeByte(-1), BAD);
        due("MOST", x.codeByte(MOST), BAD);
        due("LEAST", x.codeByte(LEAST), BAD);
        x.cut(1);
        due("behind the end", x.codeByte(2), BAD);
    }

    private static void longestCarry() {
        promise = 18;
        ContextCoder x = with(2, "abracadabra");
        due("new", x.longestCarry(), 0);
        x.learn();
        due("learn() has none", x.longestCarry(), 0);
        x.undo();
        x.encode();
        due("a carry", x.longestCarry(), 1);
        x.remove(11);
        x.forget();
        x.encode();
        due("none, of the latest", x.longestCarry(), 0);
        due("undo", x.undo(), 2);
        due("with the account", x.longestCarry(), 1);
        longCarries();
    }

    /** Texts found by search, whose carries go over bytes 255; the reference tells the same. */
    private static void longCarries() {
        String[] texts = {"badabbddcddbcbcbddddcadabddbbcbcbabccdaabbb",
            "lhingpnnghdaelnhagdklgckejmafpbenoioiomo",
            "kagedaomojbedfcghidblciindkichcgadglmoccajkdahc"};
        int[] orders = {0, 1, 1};
        for (int n = 0; n < texts.length; n++) {
            ContextCoder x = with(orders[n], texts[n]);
            Reference y = new Reference(orders[n]);
            for (char c : texts[n].toCharArray()) {
                y.type(c);
            }
            due("encode", x.encode(), y.encode());
            due("longestCarry", x.longestCarry(), 3);
            due("of the reference", y.longestCarry(), 3);
            for (int k = 0; k < x.bytes(); k++) {
                due("codeByte", x.codeByte(k), y.codeByte(k));
            }
            x.forget();
            due("decode", x.decode(), texts[n].length());
        }
    }

    private static void decode() {
        promise = 19;
        for (int order = 0; order <= 3; order++) {
            for (int exclusion = 0; exclusion <= 1; exclusion++) {
                ContextCoder x = with(order, "she sells sea shells by the sea shore ~~");
                x.setExclusion(exclusion == 1);
                int size = x.encode();
                int met = x.forget();
                due("decode", x.decode(), 40);
                due("the model as if coded", x.contexts(), met);
                due("the code stays", x.bytes(), size);
                due("the account stays", x.coded(), 41);
                String text = "she sells sea shells by the sea shore ~~";
                for (int k = 0; k < 40; k++) {
                    due("decoded", x.decoded(k), text.charAt(k));
                }
                due("an act", x.undo(), 3);
                due("the model before", x.contexts(), 0);
                due("the decoded text before", x.decoded(0), NONE);
            }
        }
    }

    private static void decodeFailures() {
        // Behind nothing the value is 0, which is the blank again and again.
        ContextCoder x = new ContextCoder(2);
        due("no end", x.decode(), -101);
        due("no act", x.undo(), NONE);
        due("no change", x.contexts(), 0);
        x = new ContextCoder(0);
        x.encode();
        due("the end is known now", x.decode(), -102);
        x.forget();
        due("decode", x.decode(), 0);
        x.forget();
        x.append(0);
        long print = x.fingerprint();
        due("another length", x.decode(), -103);
        due("nothing changes", x.fingerprint(), print);
        x.undo();
        // The last byte may be a little greater: the same text, but not its code.
        x.flip(2, 0);
        due("another byte", x.decode(), -103);
        x.undo();
        x.flip(2, 5);
        due("another check", x.decode(), -102);

        // A text of 200 characters is decoded, and one that goes on is not.
        x = new ContextCoder(0);
        for (int i = 0; i < 200; i++) {
            x.type('a');
        }
        x.encode();
        x.forget();
        due("200 characters", x.decode(), 200);
        due("the last", x.decoded(199), 'a');

        // With all 96 symbols known, exclusion on and bytes 255, an escape leaves nothing.
        x = new ContextCoder(0);
        for (int i = 0; i < 95; i++) {
            x.type(32 + i);
        }
        x.learn();
        x.setExclusion(true);
        for (int i = 0; i < 5; i++) {
            x.append(255);
        }
        due("no symbol remains", x.decode(), -103);
        x.setExclusion(false);
        due("all remain", x.decode() == -103 ? 1 : 0, 0);
    }

    private static void decodeOfNothing() {
        ContextCoder x = with(3, "lwot");
        x.learn();
        due("a code without bytes", x.decode(), 4);
        due("decoded(3)", x.decoded(3), 't');
        due("the model has learned again", x.count(0, 95), 2);
    }

    /** Behind abcd the range is 16777216 exactly, so a byte goes out before a sixth is told. */
    private static void rangeMeetsTheLeast() {
        String learned = "abcdedfdghhhhhhhhhhhhh";
        for (int n = 0; n < 30; n++) {
            ContextCoder x = with(1, learned);
            x.learn();
            x.remove(22);
            String text = "abcd" + (char) (101 + n % 3) + (char) (97 + n * n % 13) + (char) (97 + n / 5);
            typeAll(x, text);
            x.encode();
            x.forget();
            x.remove(7);
            typeAll(x, learned);
            x.learn();
            due("decode of " + text, x.decode(), 7);
        }
    }

    private static void decoded() {
        promise = 20;
        ContextCoder x = with(1, " ~x");
        due("of none", x.decoded(0), NONE);
        due("-1", x.decoded(-1), BAD);
        due("LEAST", x.decoded(LEAST), BAD);
        x.encode();
        due("encode() decodes nothing", x.decoded(0), NONE);
        x.forget();
        x.decode();
        due("0", x.decoded(0), 32);
        due("1", x.decoded(1), 126);
        due("2", x.decoded(2), 'x');
        due("3", x.decoded(3), NONE);
        due("MOST", x.decoded(MOST), NONE);
        due("-1", x.decoded(-1), BAD);
        x.remove(3);
        x.forget();
        x.encode();
        x.forget();
        due("an empty text", x.decode(), 0);
        due("is replaced", x.decoded(0), NONE);
    }

    private static void flip() {
        promise = 21;
        ContextCoder x = new ContextCoder(0);
        due("of none", x.flip(0, 0), BAD);
        due("no act", x.undo(), NONE);
        x.append(0);
        x.append(255);
        due("bit -1", x.flip(0, -1), BAD);
        due("bit 8", x.flip(0, 8), BAD);
        due("byte -1", x.flip(-1, 0), BAD);
        due("byte 2", x.flip(2, 0), BAD);
        due("bit 0", x.flip(0, 0), 1);
        due("bit 7", x.flip(0, 7), 129);
        due("of 255", x.flip(1, 7), 127);
        due("byte 0", x.codeByte(0), 129);
        due("byte 1", x.codeByte(1), 127);
        due("undo", x.undo(), 3);
        due("byte 1", x.codeByte(1), 255);
        due("back", x.flip(0, 7), 1);
    }

    private static void cut() {
        promise = 22;
        ContextCoder x = new ContextCoder(0);
        due("cut(0)", x.cut(0), BAD);
        due("cut(-1)", x.cut(-1), BAD);
        due("cut(401)", x.cut(401), BAD);
        due("cut(1) of none", x.cut(1), STATE);
        due("cut(400) of none", x.cut(400), STATE);
        for (int i = 1; i <= 3; i++) {
            x.append(i);
        }
        due("cut(4)", x.cut(4), STATE);
        due("cut(1)", x.cut(1), 2);
        due("the rest", x.codeByte(1), 2);
        due("cut(2)", x.cut(2), 0);
        due("undo", x.undo(), 3);
        due("bytes", x.bytes(), 2);
        for (int i = 3; i <= 400; i++) {
            x.append(0);
        }
        due("cut(400)", x.cut(400), 0);
    }

    private static void append() {
        promise = 23;
        ContextCoder x = new ContextCoder(0);
        due("append(-1)", x.append(-1), BAD);
        due("append(256)", x.append(256), BAD);
        due("no act", x.undo(), NONE);
        for (int i = 1; i <= 400; i++) {
            due("append", x.append(i % 256), i);
        }
        due("the 401st", x.append(0), FULL);
        due("bad before full", x.append(256), BAD);
        due("byte 399", x.codeByte(399), 144);
        due("undo", x.undo(), 3);
        due("bytes", x.bytes(), 399);
        due("append(0)", x.append(0), 400);
    }

    private static void coded() {
        promise = 24;
        ContextCoder x = with(1, "abc");
        due("no encode()", x.coded(), 0);
        x.learn();
        due("learn() is none", x.coded(), 0);
        x.encode();
        due("coded", x.coded(), 4);
        x.remove(2);
        due("of the text that was coded", x.coded(), 4);
        x.encode();
        due("coded", x.coded(), 2);
        x.undo();
        x.undo();
        due("undone", x.coded(), 0);
    }

    private static void account() {
        promise = 25;
        ContextCoder x = with(1, "aba");
        due("no encode()", x.account(0, 0), BAD);
        x.encode();
        // a: nothing met. b: order 0 knows a, escape 1 of 2. a: order 1 (b) was not met; order 0
        // knows a and b, 1 of 4. The end: order 1 (a) knows b, order 0 a twice and b.
        int[][] entries = {
            {x.lg(1, 96), 0, -1, 65},
            {x.lg(1, 2) + x.lg(1, 96), 1, -1, 66},
            {x.lg(1, 4), 0, 0, 65},
            {x.lg(1, 2) + x.lg(2, 5) + x.lg(1, 96), 2, -1, 95}};
        for (int k = 0; k < 4; k++) {
            for (int what = 0; what < 4; what++) {
                due("account(" + k + ", " + what + ")", x.account(k, what), entries[k][what]);
            }
        }
        due("what -1", x.account(0, -1), BAD);
        due("what 4", x.account(0, 4), BAD);
        due("k -1", x.account(-1, 0), BAD);
        due("k 4", x.account(4, 0), BAD);
        due("k MOST", x.account(MOST, 3), BAD);
        x.encode();
        due("at order 1", x.account(1, 2), 1);
        due("without escapes", x.account(1, 1), 0);
        due("its cost", x.account(1, 0), x.lg(1, 4));
        x.undo();
        due("undone", x.account(1, 2), -1);
    }

    private static void accountOfAFullText() {
        // An object each, because 512 calls are promised of one.
        for (int what = 0; what < 4; what++) {
            ContextCoder x = new ContextCoder(2);
            Reference y = new Reference(2);
            for (int i = 0; i < 200; i++) {
                x.type(97 + i * i % 7);
                y.type(97 + i * i % 7);
            }
            due("encode", x.encode(), y.encode());
            due("coded", x.coded(), 201);
            for (int k = 0; k <= 201; k++) {
                due("account(" + k + ", " + what + ")", x.account(k, what), y.account(k, what));
            }
            due("cost", x.cost(), y.cost());
        }
    }

    private static void cost() {
        promise = 26;
        ContextCoder x = with(2, "mississippi");
        due("no encode()", x.cost(), 0);
        x.encode();
        int sum = 0;
        for (int k = 0; k < x.coded(); k++) {
            sum += x.account(k, 0);
        }
        due("the sum", x.cost(), sum);
        x.forget();
        x.remove(11);
        due("of the latest encode()", x.cost(), sum);
        x.encode();
        due("without the check", x.cost(), x.lg(1, 96));
        x.undo();
        due("undone", x.cost(), sum);
    }

    private static void lg() {
        promise = 27;
        ContextCoder x = new ContextCoder(0);
        due("lg(0, 1)", x.lg(0, 1), BAD);
        due("lg(1, 0)", x.lg(1, 0), BAD);
        due("lg(-1, -1)", x.lg(-1, -1), BAD);
        due("lg(3, 2)", x.lg(3, 2), BAD);
        due("lg(1, 1000001)", x.lg(1, 1000001), BAD);
        due("lg(1000001, 1000001)", x.lg(1000001, 1000001), BAD);
        due("lg(LEAST, MOST)", x.lg(LEAST, MOST), BAD);
        due("lg(1, 1)", x.lg(1, 1), 0);
        due("lg(1000000, 1000000)", x.lg(1000000, 1000000), 0);
        due("lg(1, 3)", x.lg(1, 3), 103872);
        for (int k = 0; k < 20; k++) {
            due("a power of 2", x.lg(1, 1 << k), 65536 * k);
        }
        for (int total = 1; total <= 1000000; total += 1 + total / 50) {
            int size = 1 + total / 3;
            int got = new ContextCoder(0).lg(size, total);
            due("lg as the reference", got, Reference.lg(total) - Reference.lg(size));
            double bits = 65536 * (Math.log(total) - Math.log(size)) / Math.log(2);
            due("lg near the logarithm", Math.abs(got - bits) < 3 ? 1 : 0, 1);
        }
    }

    private static void undo() {
        promise = 28;
        ContextCoder x = with(0, "ab");
        due("none", x.undo(), NONE);
        for (int step = 2; step <= 7; step++) {
            x.setStep(step);
        }
        due("undo", x.undo(), 3);
        due("undo", x.undo(), 2);
        due("an act between", x.setLimit(30), 200);
        due("undo", x.undo(), 2);
        due("undo", x.undo(), 1);
        due("undo", x.undo(), 0);
        due("none", x.undo(), NONE);
        due("the text stays", x.remove(0), 2);
        due("the oldest were dropped", x.setStep(1), 3);
    }

    /** undo() goes back behind each act; asking, typing and removing are none. */
    private static void undoOfEveryAct() {
        ContextCoder x = with(1, "abab");
        x.encode();
        x.forget();
        long[] prints = new long[12];
        for (int act = 0; act < prints.length; act++) {
            prints[act] = x.fingerprint();
            act(x, act);
            x.type('c');
            x.remove(1);
            x.price(1);
            x.guess();
            long after = x.fingerprint();
            due("undo of act " + act, x.undo(), 3 - (act < 2 ? 1 - act : 0));
            due("fingerprint before act " + act, x.fingerprint(), prints[act]);
            act(x, act);
            due("act " + act + " again", x.fingerprint(), after);
        }
        for (int act = 11; act >= 8; act--) {
            due("undo", x.undo(), act - 8);
            due("fingerprint", x.fingerprint(), prints[act]);
        }
        due("no fifth", x.undo(), NONE);
    }

    private static void act(ContextCoder x, int act) {
        switch (act) {
            case 0: x.decode(); break;
            case 1: x.setExclusion(true); break;
            case 2: x.setStep(4); break;
            case 3: x.learn(); break;
            case 4: x.setLimit(21); break;
            case 5: x.learn(); break;
            case 6: x.flip(0, 3); break;
            case 7: x.append(77); break;
            case 8: x.cut(2); break;
            case 9: x.encode(); break;
            case 10: x.forget(); break;
            default: x.setOrder(3); break;
        }
    }

    private static void fingerprint() {
        promise = 29;
        ContextCoder x = new ContextCoder(2);
        due("new", x.fingerprint(), print(2, 0, 1, 200, 0, 0, 0, 0, 0));
        x.setExclusion(true);
        x.setStep(7);
        x.setLimit(333);
        due("settings", x.fingerprint(), print(2, 1, 7, 333, 0, 0, 0, 0, 0));
        x.append(200);
        x.append(3);
        due("code", x.fingerprint(), print(2, 1, 7, 333, 0, 2, 200, 3, 0, 0, 0));
        x.type('h');
        due("the text is not in it", x.fingerprint(), print(2, 1, 7, 333, 0, 2, 200, 3, 0, 0, 0));
        x.type('i');
        x.encode();
        x.forget();
        x.decode();
        long[] all = new long[6 + x.bytes() + 5];
        long[] head = {2, 1, 7, 333, x.contexts(), x.bytes()};
        System.arraycopy(head, 0, all, 0, 6);
        for (int k = 0; k < x.bytes(); k++) {
            all[6 + k] = x.codeByte(k);
        }
        long[] rest = {3, x.cost(), 2, 'h', 'i'};
        System.arraycopy(rest, 0, all, 6 + x.bytes(), 5);
        due("all", x.fingerprint(), print(all));
    }

    private static long print(long... numbers) {
        long print = 67;
        for (long number : numbers) {
            print = 31 * print + number;
        }
        return print;
    }
}
