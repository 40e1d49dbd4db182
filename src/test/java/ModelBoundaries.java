/** The boundary cases of the document's alphabet, model and costs. */
final class ModelBoundaries {
    private ModelBoundaries() {
    }

    static void run() {
        firstAndLastCharacter();
        symbolOfTheEnd();
        contextsOfEachOrder();
        blanksAreContextsToo();
        countsStayAtLeastOne();
        weightIsTheSum();
        nothingMetAtFirst();
        historyShorterThanTheOrder();
        noHistoryOfAnotherText();
        contextNotMet();
        exclusionOfHigherCandidates();
        noCandidateLeftInAContext();
        knownSymbolsCountedThoughExcluded();
        firstAndLastCandidate();
        escapeAtTheUpperEnd();
        allSymbolsRemain();
        oneSymbolRemains();
        smallerSymbolsThatRemain();
        increaseOfEachOrder();
        lastContextWithRoom();
        metContextsGoOn();
        roomAgainAfterForget();
        firstCountIsTheStep();
        weightAtTheLimit();
        oddAndEvenCountsHalved();
        halvedOnceAlone();
        onlyIncreasedContextsAreHalved();
        logarithmOfPowers();
        logarithmRoundsDown();
        costOfTheWholeInterval();
        costOfASymbolWithEscapes();
    }

    private static void says(String sentence) {
        Sentences.says(sentence);
    }

    private static void due(String what, long got, long want) {
        Sentences.due(what, got, want);
    }

    // ---- alphabet

    private static void firstAndLastCharacter() {
        says("Characters have codes from 32 to 126; their symbols are the code minus 32 (0 to 94).");
        ContextCoder x = Coders.with(0, " ~");
        due("encode", x.encode() > 0 ? 1 : 0, 1);
        due("the blank's symbol", x.account(0, 3), 0);
        due("the last symbol", x.account(1, 3), 94);
        x.forget();
        due("decode", x.decode(), 2);
        due("the blank", x.decoded(0), 32);
        due("the last", x.decoded(1), 126);
    }

    private static void symbolOfTheEnd() {
        says("Symbol 95 is the end.");
        ContextCoder x = Coders.learned(0, "");
        due("count", x.count(0, 95), 1);
        due("the last character is not met", x.count(0, 94), 0);
        x.encode();
        due("account", x.account(0, 3), 95);
    }

    // ---- contexts

    private static void contextsOfEachOrder() {
        says("The order K is from 0 to 3.");
        says("A context of order j is a sequence of j characters (there is one of order 0).");
        // "", then a b c d, then ab bc cd, then abc bcd.
        int[] met = {1, 5, 8, 10};
        for (int order = 0; order <= 3; order++) {
            due("contexts of order " + order, Coders.learned(order, "abcd").contexts(), met[order]);
            due("of the empty text", Coders.learned(order, "").contexts(), 1);
        }
    }

    private static void blanksAreContextsToo() {
        says("A context of order j is a sequence of j characters (there is one of order 0).");
        ContextCoder x = Coders.learned(3, "   ");
        due("none, one, two and three blanks", x.contexts(), 4);
        due("after none", x.weight(0), 4);
        due("after one", x.weight(1), 3);
        due("after two", x.weight(2), 2);
        due("after three", x.weight(3), 1);
        due("the last characters", Coders.learned(3, "~~~").contexts(), 4);
        // A blank and "!" is another context than "!" alone, and than "! ".
        due("mixed", Coders.learned(2, " ! ").contexts(), 5);
        // "a~" and "b " are told apart, too.
        due("neighbours of order 2", Coders.learned(2, "a~b ").contexts(), 8);
        StringBuilder all = new StringBuilder();
        for (char first : " !}~".toCharArray()) {
            for (char second : " !}~".toCharArray()) {
                for (char third : " !}~".toCharArray()) {
                    all.append(first).append(second).append(third);
                }
            }
        }
        due("all of four characters", Coders.learned(3, all.toString()).contexts(), 1 + 4 + 16 + 64);
    }

    private static void countsStayAtLeastOne() {
        says("For each context that was met, the model knows, for each symbol that was met in it, "
                + "a count (at least 1).");
        ContextCoder x = Coders.learned(0, "b");
        x.setLimit(20);
        Coders.retype(x, Coders.repeated("a", 50));
        Coders.learnOften(x, 4);
        due("a count that was halved often", x.count(0, 'b' - 32), 1);
        due("one that was never met", x.count(0, 'c' - 32), 0);
    }

    private static void weightIsTheSum() {
        says("The distinct symbols of a context are its known symbols; its weight is the sum of their counts.");
        ContextCoder x = Coders.with(1, "she sells sea shells by the sea shore s");
        x.setLimit(23);
        x.setStep(3);
        Coders.learnOften(x, 3);
        for (int order = 0; order <= 1; order++) {
            int sum = 0;
            for (int symbol = 0; symbol <= 95; symbol++) {
                sum += x.count(order, symbol);
            }
            due("weight of order " + order, x.weight(order), sum);
        }
    }

    private static void nothingMetAtFirst() {
        says("Initially no context was met.");
        ContextCoder x = new ContextCoder(3);
        due("contexts", x.contexts(), 0);
        due("weight of order 0", x.weight(0), ContextCoder.NONE);
        due("count", x.count(0, 95), ContextCoder.NONE);
    }

    private static void historyShorterThanTheOrder() {
        says("The coding goes from order j = K (or the length of the history, if this is less) down to 0; "
                + "at each order the context consists of the last j characters of the history:");
        // Blanks above all, because what stands before the first character is not a blank either.
        for (String one : new String[] {"a", " ", "~"}) {
            ContextCoder x = Coders.learned(3, Coders.repeated(one, 4));
            x.remove(4);
            // Its count, and what else is in its context: after none 4 and the end, after one 3 and the end ..
            int[] counts = {4, 3, 2, 1, 1};
            for (int length = 0; length <= 4; length++) {
                due(one + " behind " + length, x.price(one.charAt(0) - 32), x.lg(counts[length], counts[length] + 3));
                Coders.type(x, one);
            }
            x.encode();
            for (int k = 0; k <= 4; k++) {
                due("the order of the symbol " + k, x.account(k, 2), Math.min(k, 3));
            }
            x.undo();
            Coders.retype(x, Coders.repeated(one, 5));
            int size = x.encode();
            x.forget();
            Coders.retype(x, Coders.repeated(one, 4));
            x.learn();
            due("decode behind the same model", x.decode(), 5);
            due("bytes", x.bytes(), size);
        }
    }

    private static void noHistoryOfAnotherText() {
        says("A symbol is coded with a history, which consists of the characters of the same text before it.");
        ContextCoder x = Coders.learned(1, "ab");
        x.encode();
        due("the first symbol is coded at order 0", x.account(0, 2), 0);
        x.encode();
        due("again, though b was the last", x.account(0, 2), 0);
        due("contexts", x.contexts(), 3);
    }

    private static void contextNotMet() {
        says("If the context was not met, nothing is coded, and the next lower order follows.");
        ContextCoder x = Coders.learned(3, "aaaa");
        Coders.retype(x, "bcd");
        due("a at order 0 at once", x.price('a' - 32), x.lg(4, 7));
        Coders.retype(x, "a");
        x.forget();
        x.encode();
        due("no escapes in an empty model", x.account(0, 1), 0);
        due("at no order", x.account(0, 2), -1);
    }

    // ---- candidates

    private static void exclusionOfHigherCandidates() {
        says("Otherwise the candidates are the known symbols of the context; "
                + "if exclusion is on, without those that were candidates at a higher order.");
        // Order 2 (aa): b. Order 1 (a): a, b. Order 0: a twice, b, the end.
        ContextCoder x = Coders.learned(2, "aab");
        x.remove(1);
        int off = x.lg(1, 2) + x.lg(2, 4) + x.lg(1, 7);
        due("off: the end behind two escapes", x.price(95), off);
        x.setExclusion(true);
        // Order 1: a alone, of w 1 and d 2. Order 0: the end alone, of w 1 and d 3.
        due("on: all higher orders exclude", x.price(95), x.lg(1, 2) + x.lg(2, 3) + x.lg(1, 4));
        x.setExclusion(false);
        due("off again", x.price(95), off);
    }

    private static void noCandidateLeftInAContext() {
        says("Let w be the sum of their counts and d the number of all known symbols of the context "
                + "(also of those that are no candidates).");
        // Order 1 (a) and order 0 both know a and the end, so that order 0 has w 0 and d 2.
        ContextCoder x = Coders.learned(1, "aa");
        x.setExclusion(true);
        Coders.retype(x, "a");
        due("an escape that is the whole costs nothing", x.price('b' - 32), x.lg(2, 4) + x.lg(1, 94));
        Coders.retype(x, "ab");
        x.encode();
        due("but counts as an escape", x.account(1, 1), 2);
        due("coded at no order", x.account(1, 2), -1);
        due("its cost", x.account(1, 0), x.lg(2, 4) + x.lg(1, 94));
    }

    private static void knownSymbolsCountedThoughExcluded() {
        says("(also of those that are no candidates)");
        // Order 1 (a): b. Order 0: a, b, the end; b is excluded, so w is 2, but d is 3.
        ContextCoder x = Coders.learned(1, "ab");
        x.setExclusion(true);
        x.remove(1);
        due("a", x.price('a' - 32), x.lg(1, 2) + x.lg(1, 5));
        due("the escape", x.price('c' - 32), x.lg(1, 2) + x.lg(3, 5) + x.lg(1, 93));
    }

    private static void firstAndLastCandidate() {
        says("If the symbol is a candidate, it is coded as the interval from c to c + f of w + d, where f is its "
                + "count and c the sum of the counts of all candidates with smaller symbols; the coding of the symbol is "
                + "finished then.");
        ContextCoder x = Coders.learned(0, " ~");
        // The blank, ~ and the end, each once, of 3 + 3; then the blank twice, of 4 + 3; then of 5 + 3.
        Coders.retype(x, " ~");
        x.encode();
        sameCode(x, Coders.byHand(new int[] {0, 1, 6}, new int[] {2, 3, 7}, new int[] {4, 5, 8},
                Coders.checkOf(" ~")));
        // Order 1 (a) takes b away, so that c is a's count alone for the end: 2 + 1 of w 5 and d 3.
        x = Coders.learned(1, "ab");
        x.setExclusion(true);
        Coders.retype(x, "a");
        x.encode();
        sameCode(x, Coders.byHand(new int[] {0, 1, 6}, new int[] {1, 2, 2}, new int[] {2, 3, 6},
                Coders.checkOf("a")));
    }

    private static void escapeAtTheUpperEnd() {
        says("If it is no candidate, an escape is coded, as the interval from w to w + d of w + d, "
                + "and the next lower order follows.");
        ContextCoder x = Coders.learned(0, "a");
        Coders.retype(x, "b");
        x.encode();
        sameCode(x, Coders.byHand(new int[] {2, 4, 4}, new int[] {66, 67, 96}, new int[] {2, 3, 6},
                Coders.checkOf("b")));
        due("one escape", x.account(0, 1), 1);
    }

    // ---- symbols that remain

    private static void allSymbolsRemain() {
        says("with exclusion off all 96 remain, with exclusion on those that were no candidates at any order.");
        for (int symbol : new int[] {0, 94}) {
            String text = "" + (char) (symbol + 32);
            ContextCoder x = Coders.with(0, text);
            x.encode();
            sameCode(x, Coders.byHand(new int[] {symbol, symbol + 1, 96}, new int[] {1, 2, 2},
                    new int[] {95, 96, 96}, Coders.checkOf(text)));
        }
        ContextCoder x = Coders.learned(0, "a");
        due("off", x.price('b' - 32), x.lg(2, 4) + x.lg(1, 96));
        x.setExclusion(true);
        due("on", x.price('b' - 32), x.lg(2, 4) + x.lg(1, 94));
        x.forget();
        due("on, but nothing met", x.price('b' - 32), x.lg(1, 96));
    }

    private static void oneSymbolRemains() {
        says("If no order has coded the symbol, it is coded as the interval from r to r + 1 of m, where the "
                + "symbols from 0 to 95 that remain are counted: m is their number, "
                + "and r is the number of those that are smaller;");
        // 94 characters and the end are known; of all only ~ remains, as the interval from 0 to 1 of 1.
        ContextCoder x = Coders.learned(0, Coders.run(32, 94));
        x.setExclusion(true);
        due("only the escape costs", x.price(94), x.lg(95, 190));
        Coders.retype(x, "~");
        x.encode();
        sameCode(x, Coders.byHand(new int[] {95, 190, 190}, new int[] {0, 1, 1}, new int[] {95, 96, 192},
                Coders.checkOf("~")));
        x.undo();
        // With all 96 known none remains, and none has to.
        x.learn();
        due("no escape needed", x.price(94), x.lg(1, 193));
        due("guess", x.guess(), 95);
    }

    private static void smallerSymbolsThatRemain() {
        says("m is their number, and r is the number of those that are smaller;");
        // a (65) and the end are known: Z has 58 smaller ones that remain, b has 65, a is no longer there.
        String[] texts = {"Z", "b"};
        int[] smaller = {'Z' - 32, 'b' - 33};
        for (int i = 0; i < 2; i++) {
            ContextCoder x = Coders.learned(0, "a");
            x.setExclusion(true);
            Coders.retype(x, texts[i]);
            x.encode();
            sameCode(x, Coders.byHand(new int[] {2, 4, 4}, new int[] {smaller[i], smaller[i] + 1, 94},
                    new int[] {2, 3, 6}, Coders.checkOf(texts[i])));
        }
    }

    // ---- increase

    private static void increaseOfEachOrder() {
        says("After a symbol is coded, the counts are increased: for each order j = 0, 1, ..., K, but at most the "
                + "length of the history, the context of order j (as of the history without this symbol) is met");
        for (int order = 0; order <= 3; order++) {
            ContextCoder x = Coders.with(order, "abc");
            x.encode();
            for (int j = 0; j <= 3; j++) {
                due("the end at " + j + " of " + order, x.count(j, 95), j <= order ? 1 : ContextCoder.NONE);
            }
            x.remove(1);
            for (int j = 0; j <= 2; j++) {
                due("c at " + j + " of " + order, x.count(j, 'c' - 32), j <= order ? 1 : ContextCoder.NONE);
            }
            x.remove(2);
            due("a at 0", x.count(0, 'a' - 32), 1);
        }
    }

    /** An object that has met 249 contexts; s, t and what follows them are not in the long text. */
    private static ContextCoder with249() {
        ContextCoder x = Coders.learned(3, Coders.run(32, 83));
        due("1, 83, 82 and 81", x.contexts(), 247);
        Coders.retype(x, "s");
        due("s of order 1", x.learn(), 248);
        Coders.retype(x, "t");
        due("t of order 1", x.learn(), 249);
        return x;
    }

    private static void lastContextWithRoom() {
        says("(if 250 contexts were met already, one that was not met stays so, and nothing changes in it)");
        ContextCoder x = with249();
        // Behind } order 1 is the 250th context; s} of order 2 comes too late.
        Coders.retype(x, "s}");
        due("learn", x.learn(), 250);
        due("the 250th", x.count(1, 95), 1);
        due("too late", x.count(2, 95), ContextCoder.NONE);
        due("no weight", x.weight(2), ContextCoder.NONE);
        due("learn again", x.learn(), 250);
        due("still not met", x.count(2, 95), ContextCoder.NONE);
        due("the 250th goes on", x.count(1, 95), 2);
        Coders.retype(x, "|");
        due("encode", x.encode() > 0 ? 1 : 0, 1);
        due("contexts", x.contexts(), 250);
        due("not met by encode()", x.weight(1), ContextCoder.NONE);
    }

    private static void metContextsGoOn() {
        says("nothing changes in it");
        ContextCoder x = with249();
        Coders.retype(x, "s}|{z");
        x.learn();
        int weight = x.weight(0);
        // Behind s, which is met, z is new and becomes known.
        Coders.retype(x, "sz");
        x.learn();
        due("order 0", x.weight(0), weight + 3);
        x.remove(1);
        due("z behind s", x.count(1, 'z' - 32), 1);
        // A text that meets too many contexts is decoded alike.
        x = new ContextCoder(3);
        for (int i = 0; i < 200; i++) {
            x.type(32 + (i * 37 + i / 50) % 95);
        }
        int size = x.encode();
        due("contexts", x.contexts(), 250);
        due("forget", x.forget(), 250);
        due("decode", x.decode(), 200);
        due("bytes", x.bytes(), size);
        due("contexts of decode()", x.contexts(), 250);
    }

    private static void roomAgainAfterForget() {
        says("if 250 contexts were met already");
        ContextCoder x = with249();
        Coders.retype(x, "s}|");
        due("full", x.learn(), 250);
        x.forget();
        due("room again", x.learn(), 7);
        due("the end behind s}|", x.count(3, 95), 1);
    }

    private static void firstCountIsTheStep() {
        says("if the symbol is known in it, its count increases by the step, "
                + "otherwise it becomes known with the count step.");
        for (int step : new int[] {1, 10}) {
            ContextCoder x = Coders.with(0, "a");
            x.setStep(step);
            x.learn();
            due("new with step " + step, x.count(0, 'a' - 32), step);
            x.learn();
            due("known with step " + step, x.count(0, 'a' - 32), 2 * step);
            x.setStep(3);
            x.learn();
            due("with another step", x.count(0, 'a' - 32), 2 * step + 3);
        }
    }

    // ---- the limit

    private static void weightAtTheLimit() {
        says("If the weight of the context is then greater than the limit, each of its counts n becomes "
                + "(n + 1) / 2, rounded down.");
        for (int limit : new int[] {20, 200, 1000}) {
            ContextCoder x = Coders.with(0, Coders.repeated("a", 9));
            if (limit != 200) {
                x.setLimit(limit);
            }
            Coders.learnOften(x, limit / 10);
            due("at the limit " + limit, x.weight(0), limit);
            due("a", x.count(0, 'a' - 32), limit / 10 * 9);
            x.remove(9);
            x.learn();
            due("the end, greater than it", x.count(0, 95), (limit / 10 + 2) / 2);
            due("a, halved", x.count(0, 'a' - 32), (limit / 10 * 9 + 1) / 2);
        }
    }

    private static void oddAndEvenCountsHalved() {
        says("each of its counts n becomes (n + 1) / 2, rounded down.");
        // Once a, twice b, thrice c, four times d and, with the end 11 times, 21 of a limit of 20.
        ContextCoder x = Coders.with(0, "abbcccdddd");
        x.setLimit(20);
        x.learn();
        x.remove(10);
        Coders.learnOften(x, 9);
        due("at the limit", x.weight(0), 20);
        x.learn();
        int[] halves = {1, 1, 2, 2};
        for (int i = 0; i < 4; i++) {
            due("the count of " + (char) ('a' + i), x.count(0, 'a' + i - 32), halves[i]);
        }
        due("the end", x.count(0, 95), 6);
        due("weight", x.weight(0), 12);
    }

    private static void halvedOnceAlone() {
        says("If the weight of the context is then greater than the limit");
        ContextCoder x = new ContextCoder(0);
        x.setLimit(1000);
        x.setStep(10);
        Coders.learnOften(x, 100);
        x.setLimit(20);
        due("a lower limit alone", x.weight(0), 1000);
        x.learn();
        due("halved once, though greater still", x.weight(0), 505);
        x.learn();
        due("and at the next increase", x.weight(0), 258);
    }

    private static void onlyIncreasedContextsAreHalved() {
        says("If the weight of the context is then greater than the limit");
        ContextCoder x = Coders.with(1, "a");
        Coders.learnOften(x, 30);
        x.setLimit(20);
        Coders.retype(x, "b");
        x.learn();
        Coders.retype(x, "a");
        due("order 0 was increased: 60 + 2, halved twice", x.weight(0), 17);
        due("order 1 (a) was not", x.weight(1), 30);
    }

    // ---- costs

    private static void logarithmOfPowers() {
        says("lg(v), for a positive int v, is computed as follows: let k be the greatest number with 2^k at most v;");
        ContextCoder x = new ContextCoder(0);
        due("of 1", x.lg(1, 1), 0);
        due("of 2", x.lg(1, 2), 65536);
        for (int k = 2; k < 20; k++) {
            int power = 1 << k;
            due("of 2^" + k, x.lg(1, power), 65536 * k);
            Sentences.holds("less below 2^" + k, x.lg(1, power - 1) < 65536 * k);
            Sentences.holds("k of 2^" + k + " + 1", x.lg(1, power + 1) / 65536 == k);
        }
        due("of 1000000", x.lg(1, 1000000), Reference.lg(1000000));
    }

    private static void logarithmRoundsDown() {
        says("x = v * 2^(30 - k); the result is 65536 * k at first; for i = 15, 14, ..., 0: "
                + "x becomes x * x / 2^30, rounded down;");
        // Of these the last digit would be greater by 1 if x were rounded to the nearest.
        int[][] values = {{14917, 908634}, {29834, 974170}, {38893, 999241}};
        for (int[] value : values) {
            due("of " + value[0], new ContextCoder(0).lg(1, value[0]), value[1]);
        }
        says("if x is at least 2^31, x becomes x / 2, rounded down, and the result increases by 2^i.");
        due("of 3", new ContextCoder(0).lg(1, 3), 103872);
        due("of 999999", new ContextCoder(0).lg(1, 999999), Reference.lg(999999));
    }

    private static void costOfTheWholeInterval() {
        says("The cost of an interval from a to b of t is lg(t) - lg(b - a).");
        ContextCoder x = new ContextCoder(0);
        int[] totals = {1, 2, 3, 96, 65536, 999999, 1000000};
        for (int total : totals) {
            due("the whole of " + total, x.lg(total, total), 0);
            due("the least of " + total, x.lg(1, total), Reference.lg(total));
        }
        due("2 of 6", x.lg(2, 6), Reference.lg(6) - 65536);
    }

    private static void costOfASymbolWithEscapes() {
        says("The cost of a symbol is the sum of the costs of its escapes and its own interval.");
        says("COSTS are counted in units of 1/65536 bit.");
        ContextCoder x = Coders.learned(3, "aaa");
        // Orders 3 to 0 know a (0, 1, 2, 3 times) and the end; b is told behind four escapes.
        int four = x.lg(1, 2) + x.lg(2, 4) + x.lg(2, 5) + x.lg(2, 6) + x.lg(1, 96);
        due("price", x.price('b' - 32), four);
        Coders.retype(x, "aaab");
        x.encode();
        due("escapes", x.account(3, 1), 4);
        due("order", x.account(3, 2), -1);
        // The a's before it have increased order 2 by one, order 1 by two and order 0 by three.
        due("cost", x.account(3, 0), x.lg(1, 2) + x.lg(2, 5) + x.lg(2, 7) + x.lg(2, 9) + x.lg(1, 96));
    }

    private static void sameCode(ContextCoder x, int[] code) {
        due("bytes", x.bytes(), code.length);
        for (int k = 0; k < code.length; k++) {
            due("codeByte(" + k + ")", x.codeByte(k), code[k]);
        }
    }
}
