import java.util.Arrays;

/** The boundary cases of the document's coder, of coding a text and of decoding. */
final class CoderBoundaries {
    private CoderBoundaries() {
    }

    static void run() {
        firstInterval();
        lastPartTakesTheRest();
        lowMeetsTheWhole();
        carryOverBytes255();
        carryOfNoByte();
        rangeMeetsTheLeast();
        valueOfNoByte();
        valueOfOneByte();
        carryAtTheEnd();
        bytes0AtTheEnd();
        endHasTheWholeHistory();
        checkOfTheEmptyText();
        checkNumberWrapsAround();
        modelGoesOn();
        mostBytes();
        bytesBeforeThe0IsRemoved();
        bytesBehindTheEnd();
        valueBehindTheLastPart();
        wrongCheck();
        mostCharacters();
        tooManyCharacters();
        anotherLength();
        anotherByte();
        symbolBelowItsOrder();
        modelInTheStateThatItHad();
        noSymbolRemains();
        noSymbolRemainsAboveOrder0();
        noSymbolRemainsBehindAFullText();
        oneSymbolThatRemainsIsDecoded();
        firstReasonIsTold();
    }

    private static void says(String sentence) {
        Sentences.says(sentence);
    }

    private static void due(String what, long got, long want) {
        Sentences.due(what, got, want);
    }

    private static void sameCode(ContextCoder x, int... code) {
        due("bytes", x.bytes(), code.length);
        for (int k = 0; k < code.length; k++) {
            due("codeByte(" + k + ")", x.codeByte(k), code[k]);
        }
    }

    private static ContextCoder encoded(int order, String text) {
        ContextCoder x = Coders.with(order, text);
        due("encode of " + text, x.encode(), x.bytes());
        return x;
    }

    private static int decodes(int order, int... code) {
        ContextCoder x = new ContextCoder(order);
        Coders.append(x, code);
        return x.decode();
    }

    private static void roundTrip(int order, String text, int... code) {
        ContextCoder x = encoded(order, text);
        sameCode(x, code);
        x.forget();
        due("decode of " + text, x.decode(), text.length());
        for (int k = 0; k < text.length(); k++) {
            due("decoded(" + k + ")", x.decoded(k), text.charAt(k));
        }
    }

    // ---- the coder

    private static void firstInterval() {
        says("It has a number low and a number range, at first 0 and 4294967296, and a sequence of bytes, "
                + "at first empty.");
        // q = 4294967296 / 96 = 44739242; low = 95 q = 4250227990 and range = 44739306. The check is 1 of
        // 65536: q = 682, low = 4250228672 = 0xFD5557C0; FD and 55 go out, low = 0x57C00000, range 44695552.
        // The multiple 0x58000000 of 256^3 lies within, so 58 is the last byte.
        roundTrip(0, "", 0xFD, 0x55, 0x58);
    }

    private static void lastPartTakesTheRest() {
        says("To code an interval from a to b of t: let q be range / t, rounded down; low increases by q * a; range becomes q * (b - a) if b is less "
                + "than t, and range - q * a if b is t.");
        // l is 76 of 96, then 1 of 1 + 1; the end behind an escape (1 of 2 + 1) is 95 of 96, up to the top.
        int[] code = Coders.byHand(new int[] {76, 77, 96}, new int[] {0, 1, 2}, new int[] {2, 3, 3},
                new int[] {95, 96, 96}, Coders.checkOf("ll"));
        due("bytes by hand", code.length, 4);
        roundTrip(0, "ll", code);
        roundTrip(0, "ll", 203, 254, 228, 209);
    }

    private static void lowMeetsTheWhole() {
        says("If low is at least 4294967296 then, it decreases by this, and a carry travels:");
        // Behind lnjrakljhfj an escape brings low to 4294967296 exactly; it carries, and a byte 0 goes out.
        ContextCoder x = encoded(2, "lnjrakljhfjaklj");
        due("one byte", x.longestCarry(), 1);
        roundTrip(2, "lnjrakljhfjaklj", 205, 24, 127, 51, 181, 221, 183, 147, 40, 0, 147, 52, 64, 209);
    }

    private static void carryOverBytes255() {
        says("1 is added to the number that the bytes form (from the last byte backward: each byte 255 becomes 0, "
                + "and the first other byte that is met increases by 1).");
        String[] texts = {"fhf", "edbaaadbf", "lhingpnnghdaelnhagdklgckejmafpbenoioiomo"};
        int[] orders = {1, 0, 1};
        int[] longest = {2, 3, 3};
        for (int n = 0; n < texts.length; n++) {
            Reference y = new Reference(orders[n]);
            for (char c : texts[n].toCharArray()) {
                y.type(c);
            }
            int[] code = new int[y.encode()];
            for (int k = 0; k < code.length; k++) {
                code[k] = y.codeByte(k);
            }
            due("longestCarry", encoded(orders[n], texts[n]).longestCarry(), longest[n]);
            roundTrip(orders[n], texts[n], code);
        }
    }

    private static void carryOfNoByte() {
        says("Returns the number of bytes; 0 if there was no carry, or no encode().");
        due("no encode()", new ContextCoder(0).longestCarry(), 0);
        due("no carry", encoded(0, "f").longestCarry(), 0);
        due("one", encoded(0, "fh").longestCarry(), 1);
        ContextCoder x = encoded(1, "fhf");
        due("two", x.longestCarry(), 2);
        x.forget();
        Coders.retype(x, "f");
        x.encode();
        due("no carry of the latest", x.longestCarry(), 0);
    }

    private static void rangeMeetsTheLeast() {
        says("Then, as long as range is at most 16777216: the byte low / 16777216 (rounded down) is appended; "
                + "low becomes (low mod 16777216) * 256, and range becomes range * 256.");
        // Once on the way of this text the range is 16777216 exactly.
        roundTrip(1, "jajdalnjhbnchhljhfkcdeakkechlkaiff", 199, 147, 128, 151, 138, 112, 198, 79, 64, 102, 3, 180,
                151, 237, 199, 104, 67, 242, 231, 23, 186, 234, 174, 64, 194, 21, 45, 115);
    }

    // ---- the end of a code

    private static void valueOfNoByte() {
        says("At the end: let z be the greatest number of 0 to 4 such that there is a multiple v of 256^z with v at least low "
                + "and v less than low + range; let v be the least such multiple.");
        // The check number of lwot is 0, and all its intervals begin at 0: low is 0, so z is 4 and v is 0.
        ContextCoder x = Coders.learned(3, "lwot");
        due("no bytes", x.encode(), 0);
        due("codeByte(0)", x.codeByte(0), ContextCoder.BAD);
        x.undo();
        due("decode of no bytes", x.decode(), 4);
    }

    private static void valueOfOneByte() {
        says("The first 4 - z bytes of v (of four bytes, the most significant one first) are appended.");
        // z is 3, so one byte follows those that went out before: two, one and none of them.
        sameCode(encoded(0, ""), 0xFD, 0x55, 0x58);
        ContextCoder x = Coders.with(0, "+");
        x.setStep(10);
        x.learn();
        x.learn();
        due("two bytes", x.encode(), 2);
        x = Coders.with(2, "g3");
        x.setStep(10);
        Coders.learnOften(x, 2);
        due("one byte", x.encode(), 1);
        due("decodes behind the same model", decodedAgain(x, "g3", 2), 2);
    }

    private static int decodedAgain(ContextCoder x, String text, int learns) {
        x.forget();
        Coders.retype(x, text);
        Coders.learnOften(x, learns);
        return x.decode();
    }

    private static void carryAtTheEnd() {
        says("If v is 4294967296, a carry travels as above, and v becomes 0.");
        // For both texts the last bytes that went out are 113, 173 and 13, 255.
        roundTrip(2, "cc", 179, 255, 113, 174);
        due("a carry of one byte", encoded(2, "cc").longestCarry(), 1);
        int[] code = Coders.byHand(new int[] {88, 89, 96}, new int[] {1, 2, 2}, new int[] {75, 76, 96},
                new int[] {2, 4, 4}, new int[] {95, 96, 96}, Coders.checkOf("xk"));
        roundTrip(1, "xk", code);
        due("a carry of two bytes, of which one is removed", encoded(1, "xk").longestCarry(), 2);
    }

    private static void bytes0AtTheEnd() {
        says("Then bytes 0 are removed from the end, as long as the last byte is 0.");
        roundTrip(1, "xk", 237, 14, 52);
        due("all removed", Coders.learned(3, "lwot").encode(), 0);
        // The end is as likely as an escape, and low stays 0 until the check: bytes 0 before another stay.
        ContextCoder x = encoded(0, "");
        x.encode();
        sameCode(x, 0, 0, 128);
    }

    // ---- coding a text

    private static void endHasTheWholeHistory() {
        says("The symbols of the text are coded one after the other, then the end "
                + "(with the whole text as the history; counts are increased for it, too), then the check:");
        ContextCoder x = encoded(3, "abc");
        for (int order = 0; order <= 3; order++) {
            due("the end's count at " + order, x.count(order, 95), 1);
        }
        x.encode();
        due("the end is coded behind abc", x.account(3, 2), 3);
        due("and known twice", x.count(3, 95), 2);
        ContextCoder y = encoded(3, "");
        y.encode();
        due("behind nothing at order 0", y.account(0, 2), 0);
    }

    private static void checkOfTheEmptyText() {
        says("1 at first; for each character it becomes (31 * s + code) mod 65521.");
        int[] end = {95, 96, 96};
        due("check 1", decodes(0, Coders.byHand(end, new int[] {1, 2, 65536})), 0);
        due("check 0", decodes(0, Coders.byHand(end, new int[] {0, 1, 65536})), -102);
        due("check 2", decodes(0, Coders.byHand(end, new int[] {2, 3, 65536})), -102);
    }

    private static void checkNumberWrapsAround() {
        says("an interval from s to s + 1 of 65536, where s is the check number of the text:");
        // !~n and !~o give 65520 and 65521 before the modulus; awrv and awrw wrap around several times.
        String[] texts = {"!~n", "!~o", "awrv", "awrw"};
        int[] checks = {65520, 0, 65520, 0};
        for (int n = 0; n < texts.length; n++) {
            roundTrip(0, texts[n], Coders.ofOrder0(texts[n] + Coders.END, Coders.checkOf(checks[n])));
        }
        roundTrip(0, "!~o", 5, 81, 122, 230, 173, 149);
    }

    private static void modelGoesOn() {
        says("The model goes on from the state that it has.");
        ContextCoder x = encoded(0, "a");
        sameCode(x, Coders.byHand(new int[] {65, 66, 96}, new int[] {1, 2, 2}, new int[] {95, 96, 96},
                Coders.checkOf("a")));
        // a and the end are known now: 0 to 1 of 2 + 2, and then 2 to 3 of 3 + 2.
        x.encode();
        sameCode(x, Coders.byHand(new int[] {0, 1, 4}, new int[] {2, 3, 5}, Coders.checkOf("a")));
        due("it goes on in decode(), and fails", x.decode() < 0 ? 1 : 0, 1);
        x.undo();
        x.undo();
        due("nothing is left to undo", x.undo(), ContextCoder.NONE);
    }

    private static ContextCoder costly(String text) {
        ContextCoder x = new ContextCoder(1);
        Coders.makeCostly(x);
        Coders.type(x, text);
        return x;
    }

    private static void mostBytes() {
        says("A code is a sequence of at most 400 bytes.");
        says("Returns the number of bytes of the code; FULL if they would be more than 400.");
        ContextCoder x = costly(Coders.costlyText(199));
        due("400 bytes", x.encode(), 400);
        due("bytes", x.bytes(), 400);
        due("the last", x.codeByte(399) > 0 ? 1 : 0, 1);
        due("no more", x.append(0), ContextCoder.FULL);
        x.forget();
        Coders.makeCostly(x);
        due("decode of 400 bytes", x.decode(), 199);
        due("the last character", x.decoded(198), Coders.costlyText(199).charAt(198));

        x = costly(Coders.costlyText(200));
        int weight = x.weight(0);
        due("401 bytes", x.encode(), ContextCoder.FULL);
        due("no code", x.bytes(), 0);
        due("no account", x.coded(), 0);
        due("the model stays", x.weight(0), weight);
        due("the text stays", x.remove(1), 199);
        due("400 bytes again", x.encode(), 400);
    }

    private static void bytesBeforeThe0IsRemoved() {
        says("FULL if they would be more than 400.");
        // 401 bytes went out, but the carry at the end makes the last one 0, and it is removed.
        ContextCoder x = costly(Coders.costlyText(197) + "&BD");
        due("400 bytes", x.encode(), 400);
        due("the last", x.codeByte(399), 30);
        due("the carry", x.longestCarry(), 2);
    }

    // ---- decoding

    private static void bytesBehindTheEnd() {
        says("DECODING is the inverse: a code value begins with the first four bytes of the code "
                + "(bytes behind its end are 0);");
        due("no bytes are blanks without end", decodes(2), -101);
        due("one byte 0, too", decodes(2, 0), -101);
        due("three bytes", decodes(0, 0xFD, 0x55, 0x58), 0);
        ContextCoder x = Coders.with(0, "+");
        x.setStep(10);
        Coders.learnOften(x, 2);
        x.encode();
        sameCode(x, 70, 98);
        due("two bytes", decodedAgain(x, "+", 2), 1);
        x = Coders.learned(3, "lwot");
        due("no bytes", x.decode(), 4);
        due("the last character", x.decoded(3), 't');
    }

    private static void valueBehindTheLastPart() {
        says("for an interval of t, with q as above, the number min(t - 1, (value - low) / q), rounded down, "
                + "tells which interval was coded");
        // q = 44739242, and 4294967295 / q is 96: the last symbol of 96 is the end. Then 65535 is no check.
        due("bytes 255", decodes(0, 255, 255, 255, 255), -102);
        due("more bytes 255", decodes(0, 255, 255, 255, 255, 255, 255, 255), -102);
        // Here (value - low) / q is 11 once, at an escape from a context that knows the blank 10 times: t is 11.
        ContextCoder x = Coders.with(2, "   ");
        x.setStep(10);
        x.encode();
        sameCode(x, 2, 52, 47, 230, 190, 15);
        x.forget();
        due("blanks", x.decode(), 3);
        says("(value means the four bytes that belong to low at that time, modulo 4294967296).");
        // Carries have changed the bytes that the decoder sees in place of low's.
        roundTrip(2, "cc", 179, 255, 113, 174);
        roundTrip(1, "xk", 237, 14, 52);
    }

    private static void wrongCheck() {
        says("2 if the check number is not that of the text;");
        String text = "ab" + Coders.END;
        int check = Coders.check("ab");
        due("the check", decodes(0, Coders.ofOrder0(text, Coders.checkOf(check))), 2);
        due("one less", decodes(0, Coders.ofOrder0(text, Coders.checkOf(check - 1))), -102);
        due("one more", decodes(0, Coders.ofOrder0(text, Coders.checkOf(check + 1))), -102);
        due("0", decodes(0, Coders.ofOrder0(text, Coders.checkOf(0))), -102);
        due("65521 too", decodes(0, Coders.ofOrder0("!~o" + Coders.END, Coders.checkOf(65521))), -102);
        due("the greatest", decodes(0, Coders.ofOrder0(text, Coders.checkOf(65535))), -102);
    }

    private static void mostCharacters() {
        says("1 if more than 200 characters come before the end;");
        String text = Coders.repeated("a", 199) + "b";
        int[] code = Coders.ofOrder0(text + Coders.END, Coders.checkOf(text));
        sameCode(encoded(0, text), code);
        ContextCoder x = new ContextCoder(0);
        Coders.append(x, code);
        due("200 characters", x.decode(), 200);
        due("the last", x.decoded(199), 'b');
        due("no more", x.decoded(200), ContextCoder.NONE);
        int wrong = Coders.check(text) + 1;
        due("with another check", decodes(0, Coders.ofOrder0(text + Coders.END, Coders.checkOf(wrong))), -102);
    }

    private static void tooManyCharacters() {
        says("It fails with a reason: 1 if more than 200 characters come before the end;");
        for (String last : new String[] {"a", "b", " ", "~"}) {
            String text = Coders.repeated("a", 200) + last;
            due("201 characters", decodes(0, Coders.ofOrder0(text + Coders.END, Coders.checkOf(text))), -101);
        }
    }

    private static void anotherLength() {
        says("3 if the text, coded by the model in the state that it had, gives another code "
                + "(compared byte by byte; lengths must be equal, too)");
        due("a byte 0 more", decodes(0, 0xFD, 0x55, 0x58, 0), -103);
        due("two bytes 0 more", decodes(0, 0xFD, 0x55, 0x58, 0, 0), -103);
        due("another byte more", decodes(0, 0xFD, 0x55, 0x58, 1), -103);
        ContextCoder x = Coders.learned(3, "lwot");
        x.append(0);
        due("a byte 0 for none", x.decode(), -103);
        x.cut(1);
        due("none", x.decode(), 4);
    }

    private static void anotherByte() {
        says("(compared byte by byte; lengths must be equal, too)");
        // 0x59 lies within the last range as well as 0x58.
        due("the last byte", decodes(0, 0xFD, 0x55, 0x59), -103);
        due("the code itself", decodes(0, 0xFD, 0x55, 0x58), 0);
    }

    private static void symbolBelowItsOrder() {
        says("3 if the text, coded by the model in the state that it had, gives another code");
        // aa behind aa: order 0 knows a 2, the end 1; order 1 (a) knows a 1, the end 1. The second a is told at
        // order 1, as 0 to 1 of 4; an escape there and then a of order 0 tells the same text otherwise.
        int[] first = {0, 2, 5};
        int[] check = Coders.checkOf("aa");
        int[] due = Coders.byHand(first, new int[] {0, 1, 4}, new int[] {2, 3, 5}, check);
        int[] other = Coders.byHand(first, new int[] {2, 4, 4}, new int[] {0, 3, 6}, new int[] {2, 3, 5}, check);
        ContextCoder x = Coders.learned(1, "aa");
        Coders.append(x, due);
        due("as it is coded", x.decode(), 2);
        x = Coders.learned(1, "aa");
        Coders.append(x, other);
        due("below its order", x.decode(), -103);
    }

    private static void modelInTheStateThatItHad() {
        says("coded by the model in the state that it had");
        ContextCoder x = encoded(1, "abracadabra");
        x.forget();
        due("decode", x.decode(), 11);
        Sentences.holds("that the model has changed", x.decode() < 0);
        x.undo();
        due("behind undo()", x.decode(), 11);
        x.undo();
        x.setStep(5);
        Sentences.holds("that another step fails", x.decode() < 0);
        x.undo();
        x.setOrder(2);
        Sentences.holds("that another order fails", x.decode() < 0);
        x.setOrder(1);
        due("as it was", x.decode(), 11);
    }

    /** All 96 symbols are known at order 0, once each. */
    private static ContextCoder knowingAll(boolean exclusion) {
        ContextCoder x = Coders.learned(0, Coders.run(32, 95));
        x.remove(200);
        x.setExclusion(exclusion);
        return x;
    }

    private static void noSymbolRemains() {
        says("or if an escape is decoded after which no symbol remains (decoding ends there at once).");
        // The escape, then the end, then a check that is not 1: without exclusion the check is the fault.
        int[] code = Coders.byHand(new int[] {96, 192, 192}, new int[] {95, 96, 96}, Coders.checkOf(7));
        ContextCoder x = knowingAll(true);
        Coders.append(x, code);
        due("exclusion on", x.decode(), -103);
        x = knowingAll(false);
        Coders.append(x, code);
        due("exclusion off", x.decode(), -102);
        x = knowingAll(true);
        Coders.append(x, 255, 255, 255, 255, 255);
        due("bytes 255", x.decode(), -103);
        // q = 4294967296 / 192 = 22369621, and the escape begins at 96 q = 0x7FFFFFE0.
        x = knowingAll(true);
        Coders.append(x, 0x7F, 0xFF, 0xFF, 0xDF);
        due("the end just below the escape", x.decode(), -102);
        x.cut(1);
        x.append(0xE0);
        due("the escape", x.decode(), -103);
    }

    private static void noSymbolRemainsAboveOrder0() {
        says("or if an escape is decoded after which no symbol remains");
        // a is known 96 times at order 0, the other symbols once; order 1 (a) knows all of them once.
        int[] code = Coders.byHand(new int[] {65, 161, 287}, new int[] {96, 192, 192}, new int[] {0, 96, 96});
        ContextCoder x = Coders.learned(1, Coders.aBeforeEach());
        due("a", x.count(0, 'a' - 32), 96);
        due("weight", x.weight(1), 96);
        x.setExclusion(true);
        Coders.append(x, code);
        due("behind a", x.decode(), -103);
    }

    private static void noSymbolRemainsBehindAFullText() {
        says("1 if more than 200 characters come before the end;");
        int[][] intervals = new int[202][];
        for (int i = 0; i < 200; i++) {
            intervals[i] = new int[] {65, 66 + i, 192 + i};
        }
        intervals[201] = new int[] {0, 1, 1};
        // Behind 200 times a: the escape leaves nothing; a and ~ are one too many; the end has no right check.
        int[][] parts = {{296, 392, 392}, {65, 266, 392}, {294, 295, 392}, {295, 296, 392}};
        int[] answers = {-103, -101, -101, -102};
        for (int n = 0; n < parts.length; n++) {
            intervals[200] = parts[n];
            ContextCoder x = knowingAll(true);
            x.setLimit(1000);
            Coders.append(x, Coders.byHand(intervals));
            due("behind 200 characters, part " + n, x.decode(), answers[n]);
        }
    }

    private static void oneSymbolThatRemainsIsDecoded() {
        says("an escape is decoded after which no symbol remains");
        ContextCoder x = Coders.learned(0, Coders.run(32, 94));
        x.setExclusion(true);
        Coders.append(x, Coders.byHand(new int[] {95, 190, 190}, new int[] {0, 1, 1}, new int[] {95, 96, 192},
                Coders.checkOf("~")));
        due("one remains", x.decode(), 1);
        due("it", x.decoded(0), '~');
    }

    private static void firstReasonIsTold() {
        says("The first that applies is told; a code that fails changes nothing.");
        int[] wrongCheck = Coders.ofOrder0("ab" + Coders.END, Coders.checkOf(5));
        due("the check before the length", decodes(0, longer(wrongCheck)), -102);
        String text = Coders.repeated("a", 201);
        int[] tooLong = Coders.ofOrder0(text + Coders.END, Coders.checkOf(5));
        due("too many before the check and the length", decodes(0, longer(tooLong)), -101);
    }

    private static int[] longer(int[] code) {
        return Arrays.copyOf(code, code.length + 3);
    }
}
