import java.math.BigInteger;

/** The boundary cases that the document names at each constructor and method. */
final class CallBoundaries {
    private static final int BAD = ContextCoder.BAD;
    private static final int STATE = ContextCoder.STATE;
    private static final int FULL = ContextCoder.FULL;
    private static final int NONE = ContextCoder.NONE;
    private static final int LEAST = Integer.MIN_VALUE;
    private static final int MOST = Integer.MAX_VALUE;

    private CallBoundaries() {
    }

    static void run() {
        constants();
        lastOf512Calls();
        newObject();
        newOrder();
        setOrder();
        setExclusion();
        setStep();
        setLimit();
        forget();
        learnOfNothing();
        learnOfAFullText();
        contexts();
        countRanges();
        countOfShortTexts();
        weight();
        price();
        guessOfSeveral();
        guessOfTheLast();
        type();
        remove();
        encode();
        encodeOfAFullText();
        bytes();
        codeByte();
        longestCarry();
        decode();
        decodeFailures();
        decoded();
        flip();
        cut();
        append();
        coded();
        account();
        accountOfAFullText();
        cost();
        lg();
        undo();
        fingerprint();
    }

    private static void says(String sentence) {
        Sentences.says(sentence);
    }

    private static void due(String what, long got, long want) {
        Sentences.due(what, got, want);
    }

    private static void constants() {
        says("The constants:");
        says("- BAD = -1: An argument is not allowed, or there is no such thing.");
        due("BAD", BAD, -1);
        says("- STATE = -2: The call is not possible now.");
        due("STATE", STATE, -2);
        says("- FULL = -3: There is no room.");
        due("FULL", FULL, -3);
        says("- NONE = -9: There is none.");
        due("NONE", NONE, -9);
        says("The constructor and the methods follow, a promise each: the signature, then what it does.");
        int inherited = Object.class.getMethods().length;
        due("constructors", ContextCoder.class.getConstructors().length, 1);
        due("methods", ContextCoder.class.getMethods().length - inherited, 28);
    }

    private static void lastOf512Calls() {
        says("An object is used for at most 512 calls after it has been made; what later calls answer is free.");
        ContextCoder x = Coders.with(3, Coders.repeated("badc", 50));
        int size = x.encode();
        int met = x.forget();
        for (int i = 0; i < 77; i++) {
            due("decode", x.decode(), 200);
            due("forget", x.forget(), met);
            due("encode", x.encode(), size);
            due("undo", x.undo(), 3);
        }
        due("the 511th call", x.decode(), 200);
        due("the 512th call", x.decoded(199), 'c');
    }

    // ---- promises 1 to 7

    private static void newObject() {
        says("Creates a coder with an empty model, exclusion off, the step 1, the limit 200, an empty text, "
                + "an empty code and an empty account.");
        ContextCoder x = new ContextCoder(1);
        due("model", x.contexts(), 0);
        due("text", x.remove(MOST), 0);
        due("code", x.bytes(), 0);
        due("account", x.coded(), 0);
        due("cost", x.cost(), 0);
        due("decoded text", x.decoded(0), NONE);
        due("history", x.undo(), NONE);
        Coders.learnOften(x, 200);
        due("step 1, limit 200", x.weight(0), 200);
        x.learn();
        due("above the limit", x.weight(0), 101);
        due("exclusion", x.setExclusion(false), 0);
        due("step", x.setStep(1), 1);
        due("limit", x.setLimit(200), 200);
    }

    private static void newOrder() {
        says("- order: K; a value less than 0 means 0, a value greater than 3 means 3");
        int[][] orders = {{LEAST, 0}, {-1, 0}, {0, 0}, {1, 1}, {2, 2}, {3, 3}, {4, 3}, {MOST, 3}};
        int[] met = {1, 5, 8, 10};
        for (int[] order : orders) {
            due("contexts of " + order[0], Coders.learned(order[0], "abcd").contexts(), met[order[1]]);
            due("order", new ContextCoder(order[0]).setOrder(0), order[1]);
        }
    }

    private static void setOrder() {
        says("- order: 0 to 3");
        says("Returns the previous order; BAD if order is not in its range.");
        ContextCoder x = Coders.learned(2, "abcd");
        for (int order : new int[] {LEAST, -1, 4, MOST}) {
            due("setOrder(" + order + ")", x.setOrder(order), BAD);
        }
        due("the model stays", x.contexts(), 8);
        due("0", x.setOrder(0), 2);
        due("3", x.setOrder(3), 0);
        due("3 again", x.setOrder(3), 3);
        says("Sets the order and empties the model.");
        x.learn();
        due("the same order", x.setOrder(3), 3);
        due("empties too", x.contexts(), 0);
        due("count", x.count(0, 65), NONE);
    }

    private static void setExclusion() {
        says("- on: true for on");
        says("Sets exclusion.");
        says("Returns 1 if it was on before, otherwise 0.");
        ContextCoder x = new ContextCoder(0);
        due("off, to off", x.setExclusion(false), 0);
        due("off, to on", x.setExclusion(true), 0);
        due("on, to on", x.setExclusion(true), 1);
        due("on, to off", x.setExclusion(false), 1);
        due("off", x.setExclusion(false), 0);
    }

    private static void setStep() {
        says("Sets the step.");
        says("- step: 1 to 10");
        says("Returns the previous step; BAD if step is not in its range.");
        ContextCoder x = new ContextCoder(0);
        for (int step : new int[] {LEAST, -1, 0, 11, MOST}) {
            due("setStep(" + step + ")", x.setStep(step), BAD);
        }
        due("10", x.setStep(10), 1);
        x.learn();
        due("weight", x.weight(0), 10);
        due("1", x.setStep(1), 10);
        x.learn();
        due("weight", x.weight(0), 11);
    }

    private static void setLimit() {
        says("Sets the limit.");
        says("- limit: 20 to 1000");
        says("Returns the previous limit; BAD if limit is not in its range.");
        ContextCoder x = new ContextCoder(0);
        for (int limit : new int[] {LEAST, -1, 0, 19, 1001, MOST}) {
            due("setLimit(" + limit + ")", x.setLimit(limit), BAD);
        }
        due("20", x.setLimit(20), 200);
        due("1000", x.setLimit(1000), 20);
        due("1000 again", x.setLimit(1000), 1000);
    }

    private static void forget() {
        says("Empties the model.");
        says("Returns how many contexts were met.");
        ContextCoder x = new ContextCoder(3);
        due("of an empty model", x.forget(), 0);
        Coders.type(x, "abcd");
        x.learn();
        due("of ten", x.forget(), 10);
        due("of none again", x.forget(), 0);
        due("weight", x.weight(0), NONE);
        due("price", x.price(0), x.lg(1, 96));
        due("the text stays", x.remove(0), 4);
    }

    private static void learnOfNothing() {
        says("Lets the model learn the text: counts are increased as if its symbols and the end were coded.");
        says("Returns how many contexts are met then.");
        ContextCoder x = new ContextCoder(3);
        due("an empty text", x.learn(), 1);
        due("the end alone", x.weight(0), 1);
        due("again", x.learn(), 1);
        due("twice", x.count(0, 95), 2);
    }

    private static void learnOfAFullText() {
        says("The text stays.");
        ContextCoder x = Coders.with(1, Coders.repeated("ab", 100));
        x.setLimit(1000);
        due("learn", x.learn(), 3);
        due("a", x.count(0, 65), 100);
        due("the end behind b", x.count(1, 95), 1);
        due("a behind b", x.count(1, 65), 99);
        due("text", x.remove(0), 200);
        due("FULL still", x.type('a'), FULL);
    }

    // ---- promises 8 to 12

    private static void contexts() {
        says("Returns the number of contexts that were met.");
        says("Returns the number of contexts.");
        ContextCoder x = new ContextCoder(3);
        due("none", x.contexts(), 0);
        x.learn();
        due("one", x.contexts(), 1);
        Coders.retype(x, Coders.run(32, 95));
        due("learn", x.learn(), 250);
        due("no more than 250", x.contexts(), 250);
        x.undo();
        due("one again", x.contexts(), 1);
    }

    private static void countRanges() {
        says("- order: the number of these characters, 0 to 3");
        says("- symbol: 0 to 95");
        says("Returns the count; 0 if it is not known there; BAD if order or symbol is not in its range; "
                + "NONE if the text is shorter, or the context was not met.");
        ContextCoder x = Coders.learned(3, " ~ ~ ~");
        for (int order : new int[] {LEAST, -1, 4, MOST}) {
            due("count(" + order + ", 0)", x.count(order, 0), BAD);
            due("count(" + order + ", 96)", x.count(order, 96), BAD);
        }
        for (int symbol : new int[] {LEAST, -1, 96, MOST}) {
            due("count(0, " + symbol + ")", x.count(0, symbol), BAD);
            due("count(3, " + symbol + ")", x.count(3, symbol), BAD);
        }
        due("the first symbol", x.count(0, 0), 3);
        due("the last character's", x.count(0, 94), 3);
        due("the end", x.count(0, 95), 1);
        due("not known", x.count(0, 1), 0);
        due("order 3", x.count(3, 0), 1);
        due("order 3, not known", x.count(3, 94), 0);
    }

    private static void countOfShortTexts() {
        says("Returns the count of a symbol in the context that consists of the last characters of the text.");
        ContextCoder x = Coders.learned(3, "aaaa");
        x.remove(4);
        for (int length = 0; length <= 3; length++) {
            for (int order = 0; order <= 3; order++) {
                due("count(" + order + ", a) behind " + length, x.count(order, 65), order > length ? NONE : 4 - order);
            }
            x.type('a');
        }
        Coders.retype(x, "aab");
        due("b was not met", x.count(1, 65), NONE);
        due("order 0 was", x.count(0, 65), 4);
        x.setOrder(1);
        Coders.retype(x, "aa");
        x.learn();
        due("above the order", x.count(2, 65), NONE);
    }

    private static void weight() {
        says("Returns the weight of the context that consists of the last characters of the text.");
        says("Returns the weight; BAD if order is not in its range; "
                + "NONE if the text is shorter, or the context was not met.");
        ContextCoder x = Coders.learned(3, "aaaa");
        for (int order : new int[] {LEAST, -1, 4, MOST}) {
            due("weight(" + order + ")", x.weight(order), BAD);
        }
        x.remove(4);
        for (int length = 0; length <= 3; length++) {
            for (int order = 0; order <= 3; order++) {
                due("weight(" + order + ") behind " + length, x.weight(order), order > length ? NONE : 5 - order);
            }
            x.type('a');
        }
        x.type('b');
        due("b was not met", x.weight(1), NONE);
        due("order 0 was", x.weight(0), 5);
    }

    private static void price() {
        says("Returns the cost that a symbol would have if it was coded now with the text as the history.");
        says("Returns the cost; BAD if symbol is not in its range.");
        ContextCoder x = new ContextCoder(3);
        for (int symbol : new int[] {LEAST, -1, 96, MOST}) {
            due("price(" + symbol + ")", x.price(symbol), BAD);
        }
        due("the first", x.price(0), x.lg(1, 96));
        due("the end", x.price(95), x.lg(1, 96));
        x.learn();
        due("the end, known alone", x.price(95), 65536);
        due("the first, behind an escape", x.price(0), 65536 + x.lg(1, 96));
        Coders.retype(x, Coders.repeated("a", 200));
        due("behind a full text", x.price(95), 65536);
    }

    private static void guessOfSeveral() {
        says("Finds the symbol with the least price.");
        says("Returns the symbol, of several the smallest one.");
        ContextCoder x = new ContextCoder(2);
        due("of 96 alike", x.guess(), 0);
        Coders.type(x, "~}");
        x.learn();
        x.remove(2);
        due("of three known", x.guess(), 93);
        // Behind } the end is known alone, and costs as much as half.
        Coders.type(x, "}");
        due("behind }", x.guess(), 95);
        // The blank is the best of three known; then the second symbol alone is known twice.
        x = Coders.learned(0, "  a");
        due("the first symbol", x.guess(), 0);
        x = Coders.learned(0, "!!");
        due("the second symbol", x.guess(), 1);
    }

    private static void guessOfTheLast() {
        says("Returns the symbol, of several the smallest one.");
        ContextCoder x = Coders.learned(0, Coders.run(32, 95));
        due("all known once", x.guess(), 0);
        Coders.retype(x, "~");
        x.learn();
        due("~ and the end twice", x.guess(), 94);
        x.remove(1);
        x.learn();
        due("the end thrice", x.guess(), 95);
    }

    // ---- promises 13 and 14

    private static void type() {
        says("Appends a character to the text.");
        says("- c: its code, 32 to 126");
        says("Returns the length of the text; BAD if c is not in its range; FULL if the text has 200 characters.");
        ContextCoder x = new ContextCoder(0);
        for (int c : new int[] {LEAST, -1, 0, 31, 127, 160, 32 + 65536, MOST}) {
            due("type(" + c + ")", x.type(c), BAD);
        }
        due("the first", x.type(32), 1);
        due("the last", x.type(126), 2);
        for (int length = 3; length <= 200; length++) {
            due("type", x.type('a'), length);
        }
        due("201", x.type('a'), FULL);
        due("201, out of range", x.type(127), BAD);
        due("remove", x.remove(1), 199);
        due("room again", x.type('b'), 200);
        due("full again", x.type('b'), FULL);
    }

    private static void remove() {
        says("Removes characters from the end of the text.");
        says("- n: how many, 0 or more (all, if there are not so many)");
        says("Returns the length of the text then; BAD if n is negative.");
        ContextCoder x = new ContextCoder(0);
        due("0 of none", x.remove(0), 0);
        due("1 of none", x.remove(1), 0);
        Coders.type(x, Coders.repeated("a", 200));
        due("-1", x.remove(-1), BAD);
        due("LEAST", x.remove(LEAST), BAD);
        due("0", x.remove(0), 200);
        due("1", x.remove(1), 199);
        due("all but one", x.remove(198), 1);
        due("all", x.remove(1), 0);
        Coders.type(x, "abc");
        due("one more than there are", x.remove(4), 0);
        Coders.type(x, "abc");
        due("MOST", x.remove(MOST), 0);
    }

    // ---- promises 15 to 20

    private static void encode() {
        says("Codes the text, which stays.");
        says("The code and the account are replaced.");
        ContextCoder x = Coders.with(0, "abc");
        Coders.append(x, new int[20]);
        due("shorter than what was appended", x.encode() < 20 ? 1 : 0, 1);
        due("the text stays", x.remove(0), 3);
        due("account", x.coded(), 4);
        due("escapes of the end", x.account(3, 1), 1);
        x.encode();
        due("escapes of the end again", x.account(3, 1), 0);
        due("of a, too", x.account(0, 1), 0);
        due("orders", x.account(3, 2), 0);
        x.forget();
        x.remove(3);
        due("an empty text", x.encode(), 3);
        due("no byte more", x.codeByte(3), BAD);
        due("account", x.coded(), 1);
        due("none more", x.account(1, 0), BAD);
    }

    private static void encodeOfAFullText() {
        says("Codes the text, which stays.");
        String text = Coders.repeated("a", 199) + "b";
        ContextCoder x = Coders.with(0, text);
        int[] code = Coders.ofOrder0(text + Coders.END, Coders.checkOf(text));
        due("encode", x.encode(), code.length);
        for (int k = 0; k < code.length; k++) {
            due("codeByte(" + k + ")", x.codeByte(k), code[k]);
        }
        due("text", x.remove(0), 200);
    }

    private static void bytes() {
        says("Returns the number of bytes of the code.");
        says("Returns the number of bytes.");
        ContextCoder x = new ContextCoder(0);
        due("none", x.bytes(), 0);
        Coders.append(x, new int[400]);
        due("400, all 0", x.bytes(), 400);
        x.cut(400);
        due("none again", x.bytes(), 0);
    }

    private static void codeByte() {
        says("Returns a byte of the code.");
        says("- k: its index, from 0");
        says("Returns the byte, 0 to 255; BAD if there is no such byte.");
        ContextCoder x = new ContextCoder(0);
        due("0 of none", x.codeByte(0), BAD);
        for (int i = 0; i < 400; i++) {
            x.append(i % 256);
        }
        due("the least", x.codeByte(0), 0);
        due("the greatest", x.codeByte(255), 255);
        due("the last", x.codeByte(399), 143);
        for (int k : new int[] {LEAST, -1, 400, 401, MOST}) {
            due("codeByte(" + k + ")", x.codeByte(k), BAD);
        }
        x.cut(1);
        due("a byte that was cut", x.codeByte(399), BAD);
        due("the one before", x.codeByte(398), 142);
    }

    private static void longestCarry() {
        says("Returns the number of bytes that the longest carry of the latest encode() changed.");
        // Of fkk the carry at the end is of two bytes, and one before it of one.
        ContextCoder x = Coders.with(0, "fkk");
        x.encode();
        due("the longest of two", x.longestCarry(), 2);
        x.append(1);
        x.learn();
        due("damage and learn() leave it", x.longestCarry(), 2);
        x.setOrder(0);
        Coders.retype(x, "fh");
        x.encode();
        due("of the latest alone", x.longestCarry(), 1);
        x.forget();
        due("decode", x.decode(), 2);
        due("decode() leaves it", x.longestCarry(), 1);
    }

    private static void decode() {
        says("Decodes the code: the decoded text is replaced, and the model changes as if the text had been coded.");
        says("Returns the length of the decoded text; -100 minus the reason if it fails.");
        ContextCoder x = Coders.with(2, "abcabc");
        x.encode();
        long weight = x.weight(2);
        int met = x.forget();
        due("six", x.decode(), 6);
        due("contexts", x.contexts(), met);
        due("weight", x.weight(2), weight);
        due("the account stays", x.coded(), 7);
        x.forget();
        x.remove(6);
        x.encode();
        x.forget();
        due("none", x.decode(), 0);
        due("is replaced by none", x.decoded(0), NONE);
        due("the end is learned", x.count(0, 95), 1);
    }

    private static void decodeFailures() {
        says("This is an act, if it does not fail.");
        ContextCoder x = new ContextCoder(0);
        Coders.append(x, 0xFD, 0x55, 0x58);
        due("decode", x.decode(), 0);
        due("the fourth act", x.undo(), 3);
        x.append(0);
        due("-103", x.decode(), -103);
        due("append() is the latest act", x.undo(), 3);
        x.flip(0, 0);
        due("-102 or -101", x.decode() < -100 ? 1 : 0, 1);
        due("flip() is the latest act", x.undo(), 3);
        due("decode", x.decode(), 0);
    }

    private static void decoded() {
        says("Returns a character of the decoded text.");
        says("Returns its code; BAD if k is negative; NONE if there are not so many characters.");
        ContextCoder x = new ContextCoder(0);
        due("0 of none", x.decoded(0), NONE);
        due("-1 of none", x.decoded(-1), BAD);
        Coders.type(x, Coders.repeated(" ~", 100));
        x.encode();
        due("nothing is decoded yet", x.decoded(0), NONE);
        x.forget();
        x.decode();
        due("the first", x.decoded(0), 32);
        due("the last", x.decoded(199), 126);
        due("one behind", x.decoded(200), NONE);
        due("MOST", x.decoded(MOST), NONE);
        due("-1", x.decoded(-1), BAD);
        due("LEAST", x.decoded(LEAST), BAD);
    }

    // ---- promises 21 to 23

    private static void flip() {
        says("Inverts a bit of the code.");
        says("- k: the index of a byte");
        says("- bit: 0 to 7");
        says("Returns the byte then; BAD if there is no such byte or bit.");
        ContextCoder x = new ContextCoder(0);
        due("of none", x.flip(0, 0), BAD);
        Coders.append(x, 0, 255);
        for (int bit : new int[] {LEAST, -1, 8, 32, MOST}) {
            due("flip(0, " + bit + ")", x.flip(0, bit), BAD);
        }
        for (int k : new int[] {LEAST, -1, 2, 400, MOST}) {
            due("flip(" + k + ", 0)", x.flip(k, 0), BAD);
        }
        for (int bit = 0; bit <= 7; bit++) {
            due("of 0", x.flip(0, bit), 1 << bit);
            due("back", x.flip(0, bit), 0);
            due("of 255", x.flip(1, bit), 255 - (1 << bit));
            due("back", x.flip(1, bit), 255);
        }
        Coders.append(x, new int[398]);
        due("the last of 400", x.flip(399, 7), 128);
        due("the byte", x.codeByte(399), 128);
        due("the 401st", x.flip(400, 7), BAD);
    }

    private static void cut() {
        says("Removes bytes from the end of the code.");
        says("- n: 1 to 400");
        says("Returns the number of bytes then; BAD if n is not in its range; STATE if there are fewer bytes.");
        ContextCoder x = new ContextCoder(0);
        for (int n : new int[] {LEAST, -1, 0, 401, MOST}) {
            due("cut(" + n + ")", x.cut(n), BAD);
        }
        due("1 of none", x.cut(1), STATE);
        Coders.append(x, new int[399]);
        due("400 of 399", x.cut(400), STATE);
        x.append(1);
        due("401 of 400", x.cut(401), BAD);
        due("400 of 400", x.cut(400), 0);
        x.undo();
        due("1", x.cut(1), 399);
        due("all but one", x.cut(398), 1);
        due("2 of 1", x.cut(2), STATE);
        due("1 of 1", x.cut(1), 0);
    }

    private static void append() {
        says("Appends a byte to the code.");
        says("- b: 0 to 255");
        says("Returns the number of bytes then; BAD if b is not in its range; FULL if there are 400 bytes.");
        ContextCoder x = new ContextCoder(0);
        for (int b : new int[] {LEAST, -1, 256, MOST}) {
            due("append(" + b + ")", x.append(b), BAD);
        }
        due("the least", x.append(0), 1);
        due("the greatest", x.append(255), 2);
        for (int size = 3; size <= 400; size++) {
            due("append", x.append(7), size);
        }
        due("the 401st", x.append(7), FULL);
        due("the 401st, out of range", x.append(256), BAD);
        due("cut", x.cut(1), 399);
        due("room again", x.append(8), 400);
    }

    // ---- promises 24 to 27

    private static void coded() {
        says("Returns the number of symbols in the account: the length of the text that was coded, "
                + "plus 1 for the end.");
        says("Returns the number; 0 if there was no encode().");
        ContextCoder x = new ContextCoder(0);
        due("no encode()", x.coded(), 0);
        x.encode();
        due("an empty text", x.coded(), 1);
        Coders.type(x, Coders.repeated("a", 200));
        due("still that of the latest encode()", x.coded(), 1);
        x.encode();
        due("a full text", x.coded(), 201);
    }

    private static void account() {
        says("Returns a number of a symbol in the account.");
        says("- what: 0 its cost, 1 the number of its escapes, 2 the order at which it was coded (-1 if at none), "
                + "3 the symbol");
        says("Returns that number; BAD if there is no such symbol, or what is not in its range.");
        ContextCoder x = Coders.with(3, " ");
        due("no encode()", x.account(0, 3), BAD);
        x.encode();
        due("the first symbol's cost", x.account(0, 0), x.lg(1, 96));
        due("its escapes", x.account(0, 1), 0);
        due("its order", x.account(0, 2), -1);
        due("it", x.account(0, 3), 0);
        due("the end", x.account(1, 3), 95);
        for (int k : new int[] {LEAST, -1, 2, 200, MOST}) {
            due("account(" + k + ", 0)", x.account(k, 0), BAD);
        }
        for (int what : new int[] {LEAST, -1, 4, MOST}) {
            due("account(0, " + what + ")", x.account(0, what), BAD);
        }
    }

    private static void accountOfAFullText() {
        says("- what: 0 its cost, 1 the number of its escapes, 2 the order at which it was coded (-1 if at none), "
                + "3 the symbol");
        ContextCoder x = Coders.with(3, Coders.repeated("a", 199) + "b");
        x.encode();
        due("the first a", x.account(0, 2), -1);
        due("the second", x.account(1, 2), 0);
        due("the third", x.account(2, 2), 1);
        due("the fourth", x.account(3, 2), 2);
        due("the fifth", x.account(4, 2), 3);
        due("b at none", x.account(199, 2), -1);
        due("behind four escapes", x.account(199, 1), 4);
        due("the end", x.account(200, 3), 95);
        due("one escape, for b, ab and aab are new", x.account(200, 1), 1);
        due("at none", x.account(200, 2), -1);
        // Of order 0, which knows a 199 times and b once.
        due("its cost", x.account(200, 0), x.lg(2, 202) + x.lg(1, 96));
        due("no more", x.account(201, 3), BAD);
    }

    private static void cost() {
        says("Returns the sum of the costs of all symbols in the account (without the check).");
        says("Returns the sum.");
        ContextCoder x = new ContextCoder(0);
        due("no encode()", x.cost(), 0);
        x.encode();
        due("an empty text", x.cost(), x.lg(1, 96));
        x.encode();
        due("again", x.cost(), x.lg(1, 2));
        x.forget();
        Coders.type(x, Coders.repeated("a", 200));
        x.encode();
        int sum = 0;
        for (int k = 0; k <= 200; k++) {
            sum += x.account(k, 0);
        }
        due("a full text", x.cost(), sum);
    }

    private static void lg() {
        says("Returns the cost of an interval.");
        says("- size: b - a, 1 to total");
        says("- total: t, 1 to 1000000");
        says("Returns the cost; BAD if an argument is not in its range.");
        ContextCoder x = new ContextCoder(0);
        int[][] wrong = {{0, 1}, {-1, 1}, {LEAST, 1}, {2, 1}, {MOST, 1}, {1, 0}, {0, 0}, {1, -1}, {-1, -1},
            {LEAST, LEAST}, {1, LEAST}, {1, 1000001}, {1000001, 1000001}, {1000001, 1000000}, {1, MOST},
            {MOST, MOST}, {0, 1000000}};
        for (int[] pair : wrong) {
            due("lg(" + pair[0] + ", " + pair[1] + ")", x.lg(pair[0], pair[1]), BAD);
        }
        due("lg(1, 1)", x.lg(1, 1), 0);
        due("lg(1, 1000000)", x.lg(1, 1000000), Reference.lg(1000000));
        due("lg(1000000, 1000000)", x.lg(1000000, 1000000), 0);
        due("lg(999999, 1000000)", x.lg(999999, 1000000), Reference.lg(1000000) - Reference.lg(999999));
    }

    // ---- promises 28 and 29

    private static void undo() {
        says("Undoes the latest act.");
        says("Returns how many states the history still has; NONE if it has none.");
        ContextCoder x = new ContextCoder(0);
        due("none", x.undo(), NONE);
        x.setStep(2);
        due("one, and then none", x.undo(), 0);
        due("none", x.undo(), NONE);
        due("no redoing", x.setStep(3), 1);
        for (int step = 4; step <= 8; step++) {
            x.setStep(step);
        }
        for (int left = 3; left >= 0; left--) {
            due("undo", x.undo(), left);
        }
        due("none", x.undo(), NONE);
        due("two of six could not be undone", x.setStep(1), 4);
    }

    private static void fingerprint() {
        says("Returns a fingerprint.");
        says("Returns the fingerprint.");
        says("It starts as 67; then, for each of the following numbers, in this order, it becomes 31 times itself "
                + "plus the number, in long arithmetic with overflow: the order, 1 if exclusion is on or else 0, "
                + "the step, the limit, contexts(), bytes(), all bytes of the code, coded(), cost(), the length of "
                + "the decoded text, and the codes of its characters.");
        ContextCoder x = new ContextCoder(0);
        due("new", x.fingerprint(), print(0, 0, 1, 200, 0, 0, 0, 0, 0));
        Coders.append(x, 0, 255);
        due("bytes 0 and 255", x.fingerprint(), print(0, 0, 1, 200, 0, 2, 0, 255, 0, 0, 0));
        x.setExclusion(true);
        x.setStep(10);
        x.setLimit(1000);
        due("settings", x.fingerprint(), print(0, 1, 10, 1000, 0, 2, 0, 255, 0, 0, 0));
        x = Coders.with(3, " ~");
        x.encode();
        x.forget();
        x.decode();
        int[] code = Coders.code(x);
        long[] numbers = new long[6 + code.length + 5];
        long[] head = {3, 0, 1, 200, x.contexts(), code.length};
        long[] tail = {3, x.cost(), 2, 32, 126};
        System.arraycopy(head, 0, numbers, 0, 6);
        for (int k = 0; k < code.length; k++) {
            numbers[6 + k] = code[k];
        }
        System.arraycopy(tail, 0, numbers, 6 + code.length, 5);
        due("all", x.fingerprint(), print(numbers));
        // 400 bytes make the number overflow hundreds of times.
        x = new ContextCoder(3);
        Coders.append(x, new int[400]);
        long[] long400 = new long[409];
        System.arraycopy(new long[] {3, 0, 1, 200, 0, 400}, 0, long400, 0, 6);
        due("400 bytes", x.fingerprint(), print(long400));
    }

    private static long print(long... numbers) {
        BigInteger print = BigInteger.valueOf(67);
        for (long number : numbers) {
            print = print.multiply(BigInteger.valueOf(31)).add(BigInteger.valueOf(number));
        }
        return print.longValue();
    }
}
