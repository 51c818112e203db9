/** The edges that promises 1 to 6 and section 5 of the document name: the input buffer and the setup text. */
final class EdgeSetupTest {
    private static final Checks CHECKS = new Checks("EdgeSetupTest");
    private static final int INVALID = RateLimiter.INVALID;
    private static final int NONE = RateLimiter.NONE;
    private static final int SPACES = 0x20202020;
    private static final String[] WORDS = {"node", "in", "limit", "age", "at", "rate", "ceiling", "burst", "credit",
        "weight", "priority", "alone"};

    public static void main(String[] args) {
        CHECKS.test("constants: INVALID is -1, NONE is -2", EdgeSetupTest::constants);
        CHECKS.test("example 1", EdgeSetupTest::example);
        CHECKS.test("the tests' own comparison: each change shows", () -> Twins.changesShow(CHECKS));
        CHECKS.test("promise 1: without nodes", EdgeSetupTest::newHasNoNodes);
        CHECKS.test("promise 1: with an empty buffer", EdgeSetupTest::newHasEmptyBuffer);
        CHECKS.test("promise 2: 20 bytes, the most significant byte first", EdgeSetupTest::feedOrder);
        CHECKS.test("promise 2: bytes above 127 spoil no other byte", EdgeSetupTest::feedHighBytes);
        CHECKS.test("promise 2: returns the new length, 20 to 900", EdgeSetupTest::feedTo900);
        CHECKS.test("promise 2: INVALID if it would exceed 900", EdgeSetupTest::feedBeyond900);
        CHECKS.test("promise 2: nothing is appended then", EdgeSetupTest::feedRefusedAppendsNothing);
        CHECKS.test("promise 2: a refused feed changes nothing else", EdgeSetupTest::feedRefusedChangesNothing);
        CHECKS.test("promise 3: returns the new length, 0 and the present one too", EdgeSetupTest::truncateWithin);
        CHECKS.test("promise 3: INVALID if negative or above the length", EdgeSetupTest::truncateOutside);
        CHECKS.test("promise 3: of an empty and of a full buffer", EdgeSetupTest::truncateEmptyAndFull);
        CHECKS.test("promise 3: nothing changes then", EdgeSetupTest::truncateRefused);
        CHECKS.test("promise 3: what was cut off is gone", EdgeSetupTest::truncatedBytesAreGone);
        CHECKS.test("promise 4: load empties the buffer, with a fault or without", EdgeSetupTest::loadEmptiesBuffer);
        CHECKS.test("promise 4: returns the number of nodes, 0, 1 and 12 too", EdgeSetupTest::loadReturns);
        CHECKS.test("promise 4: on a fault nothing changes but buffer and fault", EdgeSetupTest::loadRefused);
        CHECKS.test("promise 4: a fault in the last byte, all before it is good", EdgeSetupTest::loadRefusedLate);
        CHECKS.test("promise 5: 0 before any load", EdgeSetupTest::faultBeforeLoad);
        CHECKS.test("promise 5: 0 if the latest load had no fault", EdgeSetupTest::faultOfLatestLoad);
        CHECKS.test("promise 5: only a load changes it", EdgeSetupTest::faultStays);
        CHECKS.test("promise 6: NONE if there was none, positions 0 to 900", EdgeSetupTest::faultPositions);
        CHECKS.test("section 5: the buffer holds 900 bytes, and all are read", EdgeSetupTest::fullBufferIsRead);
        CHECKS.test("section 5: spaces and line feeds, before, between, behind", EdgeSetupTest::blanks);
        CHECKS.test("section 5: no blank is needed where one token ends", EdgeSetupTest::withoutBlanks);
        CHECKS.test("section 5: every other byte is an invalid token", EdgeSetupTest::everyByte);
        CHECKS.test("section 5: a word has at most 8 letters", EdgeSetupTest::wordLength);
        CHECKS.test("section 5: a number has at most 4 digits", EdgeSetupTest::numberLength);
        CHECKS.test("section 5: a NAME is none of the words in quotes", EdgeSetupTest::wordsAreNoNames);
        CHECKS.test("section 5: a word that begins or ends like one in quotes is a NAME", EdgeSetupTest::almostWords);
        CHECKS.test("section 5: no in behind the first name", EdgeSetupTest::firstNodeHasNoIn);
        CHECKS.test("section 5: in behind every other name", EdgeSetupTest::otherNodesHaveIn);
        CHECKS.test("section 5: settings that are left out", EdgeSetupTest::leftOut);
        CHECKS.test("section 5: ceiling equal to the rate", EdgeSetupTest::ceilingLeftOut);
        CHECKS.test("section 5: limit 0 to 99", () -> range("limit ", 0, 99));
        CHECKS.test("section 5: limit is 10 without it", EdgeSetupTest::limitLeftOut);
        CHECKS.test("section 5: age 0 to 999", () -> range("age ", 0, 999));
        CHECKS.test("section 5: without age no request is too old", EdgeSetupTest::ageLeftOut);
        CHECKS.test("section 1: rate 0 to 99", () -> range("node a rate ", 0, 99));
        CHECKS.test("section 1: ceiling 0 to 999", () -> range("node a ceiling ", 0, 999));
        CHECKS.test("section 1: burst 1 to 999", () -> range("node a burst ", 1, 999));
        CHECKS.test("section 1: credit limit 0 to 999", () -> range("node a credit ", 0, 999));
        CHECKS.test("section 1: weight 1 to 9", () -> range("node a weight ", 1, 9));
        CHECKS.test("section 1: priority 0 to 7", () -> range("node a priority ", 0, 7));
        CHECKS.test("section 5: times of changes, 1 to 5000", EdgeSetupTest::changeTimes);
        CHECKS.test("section 5: the last number as by setRate()", () -> range("node a;at 1 a rate ", 0, 99));
        CHECKS.test("section 5: the last number as by setCeiling()", () -> range("node a;at 1 a ceiling ", 0, 999));
        CHECKS.test("section 5: the last number as by setWeight()", () -> range("node a;at 1 a weight ", 1, 9));
        CHECKS.test("section 5: only rate, ceiling and weight change", EdgeSetupTest::changedSettings);
        CHECKS.test("section 5: reading ends at the first fault", EdgeSetupTest::firstFault);
        CHECKS.test("section 5: the position is that of the token's first byte", EdgeSetupTest::positionOfToken);
        CHECKS.test("section 5: the length of the buffer if the text ends too early", EdgeSetupTest::endsTooEarly);
        CHECKS.test("section 5: of several faults of a token the lowest code", EdgeSetupTest::lowestCode);
        CHECKS.test("section 5, code 1: no setup continues with the token", EdgeSetupTest::unexpected);
        CHECKS.test("section 5, code 3: the name of an earlier node behind node", EdgeSetupTest::nameTaken);
        CHECKS.test("section 5, code 3: behind in no name of an earlier node", EdgeSetupTest::parentUnknown);
        CHECKS.test("section 5, code 3: a timed change of no earlier node", EdgeSetupTest::changedNodeUnknown);
        CHECKS.test("section 5, code 3: names that differ in one letter or in length", EdgeSetupTest::similarNames);
        CHECKS.test("section 5, code 4: a setting that the same node has", EdgeSetupTest::settingTwice);
        CHECKS.test("section 5, code 4: a second limit or age", EdgeSetupTest::limitTwice);
        CHECKS.test("section 5, code 5: a 13th node", EdgeSetupTest::thirteenthNode);
        CHECKS.test("section 5, code 5: a 13th timed change", EdgeSetupTest::thirteenthChange);
        CHECKS.test("section 5: a setup without a fault replaces everything", EdgeSetupTest::replacesEverything);
        CHECKS.test("section 5: nor is anything left after several loads, some with a fault", EdgeSetupTest::replacesAgain);
        CHECKS.test("section 5: a setup without nodes, there are no leaves then", EdgeSetupTest::noNodesNoLeaves);
        CHECKS.finish();
    }

    private static void fault(String text, int code, int position) {
        RateLimiter x = new RateLimiter();
        CHECKS.due("load of '" + text + "'", Checks.load(x, text), INVALID);
        CHECKS.due("faultCode of '" + text + "'", x.faultCode(), code);
        CHECKS.due("faultPosition of '" + text + "'", x.faultPosition(), position);
        CHECKS.due("nodeCount of '" + text + "'", x.nodeCount(), 0);
    }

    private static RateLimiter good(String text, int nodes) {
        RateLimiter x = new RateLimiter();
        CHECKS.due("load of '" + text + "'", Checks.load(x, text), nodes);
        CHECKS.due("faultCode of '" + text + "'", x.faultCode(), 0);
        CHECKS.due("faultPosition of '" + text + "'", x.faultPosition(), NONE);
        CHECKS.due("nodeCount of '" + text + "'", x.nodeCount(), nodes);
        return x;
    }

    /** A number of this range is good, and of those outside of it only the greater ones can be written. */
    private static void range(String before, int least, int greatest) {
        int nodes = before.startsWith("node") ? 1 : 0;
        good(before + least + ";", nodes);
        good(before + greatest + ";", nodes);
        good(before + "0".repeat(4 - ("" + greatest).length()) + greatest + ";", nodes);
        fault(before + (greatest + 1) + ";", 2, before.length());
        fault(before + 9999 + ";", 2, before.length());
        if (least > 0) {
            fault(before + (least - 1) + ";", 2, before.length());
            fault(before + "0000;", 2, before.length());
        }
        fault(before + ";", 1, before.length());
        fault(before + "-1;", 1, before.length());
        fault(before + "a;", 1, before.length());
    }

    private static void constants() {
        CHECKS.due("INVALID", RateLimiter.INVALID, -1);
        CHECKS.due("NONE", RateLimiter.NONE, -2);
    }

    private static void example() {
        RateLimiter x = new RateLimiter();
        CHECKS.due("feed", x.feed(1852793957, 543243118, 1868850464, 1648042016, 538976288), 20);
        CHECKS.due("truncate(14)", x.truncate(14), 14);
        CHECKS.due("load()", x.load(), -1);
        CHECKS.due("faultCode()", x.faultCode(), 1);
        CHECKS.due("faultPosition()", x.faultPosition(), 13);
        CHECKS.due("lender(0, 1)", x.lender(0, 1), -1);
    }

    // ---- promises 1 to 6

    private static void newHasNoNodes() {
        RateLimiter x = new RateLimiter();
        CHECKS.due("nodeCount()", x.nodeCount(), 0);
        CHECKS.due("isLeaf(0)", x.isLeaf(0), false);
        CHECKS.due("rate(0)", x.rate(0), INVALID);
        CHECKS.due("time()", x.time(), 0);
        CHECKS.due("nextLeaf()", x.nextLeaf(), NONE);
        CHECKS.due("logCount()", x.logCount(), 0);
    }

    private static void newHasEmptyBuffer() {
        CHECKS.due("truncate(0)", new RateLimiter().truncate(0), 0);
        CHECKS.due("truncate(1)", new RateLimiter().truncate(1), INVALID);
        CHECKS.due("feed", new RateLimiter().feed(0, 0, 0, 0, 0), 20);
        CHECKS.due("load", new RateLimiter().load(), 0);
    }

    private static void feedOrder() {
        RateLimiter x = new RateLimiter();
        CHECKS.due("feed", x.feed(0x6e6f6465, 0x20616263, 0x64656667, 0x68207261, 0x74652037), 20);
        CHECKS.due("feed", x.feed(0x363b2020, SPACES, SPACES, SPACES, SPACES), 40);
        CHECKS.due("load", x.load(), 1);
        for (int i = 0; i < 8; i++) {
            CHECKS.due("nameLetter(0, " + i + ")", x.nameLetter(0, i), i + 1);
        }
        CHECKS.due("rate(0)", x.rate(0), 76);
    }

    private static void feedHighBytes() {
        for (int i = 0; i < 20; i++) {
            int[] four = {SPACES, SPACES, SPACES, SPACES, SPACES};
            four[i / 4] |= 0xff << 24 - i % 4 * 8;
            RateLimiter x = new RateLimiter();
            x.feed(four[0], four[1], four[2], four[3], four[4]);
            CHECKS.due("load of byte 255 at " + i, x.load(), INVALID);
            CHECKS.due("faultPosition of byte 255 at " + i, x.faultPosition(), i);
            CHECKS.due("faultCode of byte 255 at " + i, x.faultCode(), 1);
        }
    }

    private static int feedSpaces(RateLimiter x) {
        return x.feed(SPACES, SPACES, SPACES, SPACES, SPACES);
    }

    /** An object whose buffer holds so many spaces. */
    private static RateLimiter spaces(int length) {
        RateLimiter x = new RateLimiter();
        for (int i = 0; i < length; i += 20) {
            feedSpaces(x);
        }
        x.truncate(length);
        return x;
    }

    private static void feedTo900() {
        RateLimiter x = new RateLimiter();
        for (int length = 20; length <= 900; length += 20) {
            CHECKS.due("feed to " + length, feedSpaces(x), length);
        }
        CHECKS.due("feed at 879", feedSpaces(spaces(879)), 899);
        CHECKS.due("feed at 880", feedSpaces(spaces(880)), 900);
        CHECKS.due("feed at 1", feedSpaces(spaces(1)), 21);
    }

    private static void feedBeyond900() {
        for (int length : new int[] {881, 882, 890, 899, 900}) {
            RateLimiter x = spaces(length);
            CHECKS.due("feed at " + length, x.feed(-1, -1, -1, -1, -1), INVALID);
            CHECKS.due("feed once more at " + length, feedSpaces(x), INVALID);
        }
    }

    private static void feedRefusedAppendsNothing() {
        for (int length : new int[] {881, 890, 899, 900}) {
            RateLimiter x = spaces(length);
            x.feed(-1, -1, -1, -1, -1);
            CHECKS.due("truncate(901) at " + length, x.truncate(901), INVALID);
            CHECKS.due("truncate(length + 1) at " + length, x.truncate(length + 1), INVALID);
            CHECKS.due("truncate(length) at " + length, x.truncate(length), length);
            CHECKS.due("load at " + length, x.load(), 0);
        }
        RateLimiter y = spaces(881);
        y.feed(-1, -1, -1, -1, -1);
        y.truncate(880);
        CHECKS.due("feed after a refused feed", feedSpaces(y), 900);
        CHECKS.due("load", y.load(), 0);
    }

    private static void feedRefusedChangesNothing() {
        RateLimiter asked = Twins.busy();
        RateLimiter twin = Twins.busy();
        for (int i = 0; i < 44; i++) {
            feedSpaces(asked);
            feedSpaces(twin);
        }
        CHECKS.due("feed of a full buffer", asked.feed(-1, -1, -1, -1, -1), INVALID);
        Twins.same(CHECKS, "a refused feed", asked, twin);
    }

    private static void truncateWithin() {
        for (int length : new int[] {0, 1, 7, 39, 40}) {
            RateLimiter x = spaces(40);
            CHECKS.due("truncate(" + length + ") of 40", x.truncate(length), length);
            CHECKS.due("feed behind it", feedSpaces(x), length + 20);
        }
    }

    private static void truncateOutside() {
        for (int length : new int[] {-1, -2, -40, 41, 42, 900, 901, Integer.MIN_VALUE, Integer.MAX_VALUE}) {
            CHECKS.due("truncate(" + length + ") of 40", spaces(40).truncate(length), INVALID);
        }
        RateLimiter x = spaces(40);
        x.truncate(30);
        CHECKS.due("truncate(31) of 30", x.truncate(31), INVALID);
    }

    private static void truncateEmptyAndFull() {
        RateLimiter x = new RateLimiter();
        CHECKS.due("truncate(1) of nothing", x.truncate(1), INVALID);
        CHECKS.due("truncate(-1) of nothing", x.truncate(-1), INVALID);
        CHECKS.due("truncate(0) of nothing", x.truncate(0), 0);
        RateLimiter y = spaces(900);
        CHECKS.due("truncate(901) of 900", y.truncate(901), INVALID);
        CHECKS.due("truncate(900) of 900", y.truncate(900), 900);
        CHECKS.due("truncate(899) of 900", y.truncate(899), 899);
        CHECKS.due("truncate(0) of 899", y.truncate(0), 0);
        CHECKS.due("truncate(1) of 0", y.truncate(1), INVALID);
    }

    private static void truncateRefused() {
        int[] wrong = {-1, Integer.MIN_VALUE, 12, 900, Integer.MAX_VALUE};
        Twins.unchanged(CHECKS, "refused truncates", x -> {
            for (int length : wrong) {
                CHECKS.due("truncate(" + length + ") of 11", x.truncate(length), INVALID);
            }
        });
        RateLimiter x = new RateLimiter();
        Checks.feed(x, "node a;");
        x.truncate(8);
        x.truncate(-1);
        CHECKS.due("load", x.load(), 1);
    }

    private static void truncatedBytesAreGone() {
        RateLimiter x = new RateLimiter();
        Checks.feed(x, "node a;!!!");
        CHECKS.due("truncate(7)", x.truncate(7), 7);
        CHECKS.due("load", x.load(), 1);
        Checks.feed(x, "limit 5;!!!");
        x.truncate(0);
        CHECKS.due("load of nothing", x.load(), 0);
        CHECKS.due("text", Checks.setupText(x), "limit 10;");
        Checks.feed(x, "limit 77777");
        x.truncate(7);
        Checks.feed(x, ";");
        CHECKS.due("load", x.load(), 0);
        CHECKS.due("text", Checks.setupText(x), "limit 7;");
    }

    private static void loadEmptiesBuffer() {
        for (String text : new String[] {"node a;", "", "node a", "!", "limit 5;"}) {
            RateLimiter x = new RateLimiter();
            Checks.load(x, text);
            CHECKS.due("truncate(1) after load of '" + text + "'", x.truncate(1), INVALID);
            CHECKS.due("feed after load of '" + text + "'", feedSpaces(x), 20);
            CHECKS.due("load of spaces", x.load(), 0);
        }
        RateLimiter full = spaces(900);
        CHECKS.due("load of 900 spaces", full.load(), 0);
        CHECKS.due("feed after it", feedSpaces(full), 20);
    }

    private static void loadReturns() {
        good("", 0);
        good("limit 5;", 0);
        good("node a;", 1);
        good("node a;node b in a;", 2);
        good(Wrong.twelve(), 12);
    }

    private static void loadRefused() {
        RateLimiter asked = Twins.busy();
        CHECKS.due("load of 'node q;node'", asked.load(), INVALID);
        CHECKS.due("faultCode()", asked.faultCode(), 1);
        CHECKS.due("faultPosition()", asked.faultPosition(), 11);
        sameButFault(asked, " fault 1 11");
    }

    private static void sameButFault(RateLimiter asked, String fault) {
        RateLimiter twin = Twins.busy();
        twin.truncate(0);
        CHECKS.due("all but the fault", Twins.answers(asked), Twins.answers(twin).replace(" fault 0 -2", fault));
        CHECKS.due("all that is hidden", Twins.hidden(asked), Twins.hidden(twin));
    }

    private static void loadRefusedLate() {
        RateLimiter asked = Twins.busy();
        asked.truncate(0);
        String good = "limit 1;age 1;node z rate 7 burst 5;node y in z weight 2;at 1 y rate 5;at 2 z weight 7;";
        CHECKS.due("load", Checks.load(asked, good + "!"), INVALID);
        sameButFault(asked, " fault 1 " + good.length());
    }

    private static void faultBeforeLoad() {
        RateLimiter x = new RateLimiter();
        CHECKS.due("faultCode()", x.faultCode(), 0);
        CHECKS.due("faultPosition()", x.faultPosition(), NONE);
        Checks.feed(x, "!");
        CHECKS.due("faultCode() after feed", x.faultCode(), 0);
        CHECKS.due("faultPosition() after feed", x.faultPosition(), NONE);
    }

    private static void faultOfLatestLoad() {
        RateLimiter x = new RateLimiter();
        String[] texts = {"!", "", "limit 100;", "node a;", "node b in", "node a;node a in a;", "age 1;age", "limit 1;"};
        int[] codes = {1, 0, 2, 0, 1, 3, 4, 0};
        int[] positions = {0, NONE, 6, NONE, 7, 12, 6, NONE};
        for (int i = 0; i < texts.length; i++) {
            CHECKS.due("load", Checks.load(x, texts[i]) == INVALID, codes[i] != 0);
            CHECKS.due("faultCode of '" + texts[i] + "'", x.faultCode(), codes[i]);
            CHECKS.due("faultPosition of '" + texts[i] + "'", x.faultPosition(), positions[i]);
        }
    }

    private static void faultStays() {
        RateLimiter x = Checks.loaded("node a;");
        x.save(0);
        Checks.load(x, "limit 100;");
        Checks.feed(x, "limit 5;");
        x.truncate(0);
        x.advance(5);
        x.restore(0);
        x.acquire(0, 1);
        x.setRate(0, 5);
        CHECKS.due("faultCode()", x.faultCode(), 2);
        CHECKS.due("faultPosition()", x.faultPosition(), 6);
    }

    private static void faultPositions() {
        fault("!", 1, 0);
        fault(";", 1, 0);
        fault(" ".repeat(899) + "!", 1, 899);
        fault(" ".repeat(896) + "node", 1, 900);
        fault("node" + " ".repeat(896), 1, 900);
        fault(" ".repeat(899) + ";", 1, 899);
        good(" ".repeat(900), 0);
    }

    // ---- section 5: tokens

    private static void fullBufferIsRead() {
        good(" ".repeat(893) + "node a;", 1);
        good("node a;" + "\n".repeat(893), 1);
        good("node" + " ".repeat(890) + "abcde;", 1);
        fault("node a;" + " ".repeat(892) + "x", 1, 899);
        StringBuilder text = new StringBuilder("node aaaaaaaa");
        text.append(" rate 0099 ceiling 0999 burst 0999 credit 0999 weight 0009 priority 0007;");
        for (int i = 1; i < 12; i++) {
            text.append("node aaaaaaa").append((char) ('a' + i)).append(" in aaaaaaaa rate 0099 ceiling 0999 burst 0999;");
        }
        RateLimiter x = good(text + " ".repeat(900 - text.length() - 8) + "limit 7;", 12);
        CHECKS.due("rate(11)", x.rate(11), 99);
        CHECKS.due("burst(11)", x.burst(11), 999);
    }

    private static void blanks() {
        good(" ", 0);
        good("\n", 0);
        good("\n node a;", 1);
        good("  \n\n node \n a \n rate\n\n7 ; \n", 1);
        good("node\na\n;\nnode\nb\nin\na\n;\n", 2);
        good("node a ; at \n1 a  rate\n1 ;", 1);
        fault("no de a;", 1, 0);
        fault("node a ra te 5;", 1, 7);
        fault("limit 1 0;", 1, 8);
        fault("limit 1\n0;", 1, 8);
        fault("node\ta;", 1, 4);
        fault("node a;\r\n", 1, 7);
        fault("\u00a0node a;", 1, 0);
    }

    private static void withoutBlanks() {
        RateLimiter x = good("node a rate5ceiling60burst7credit8weight9priority2alone;limit3;age4;", 1);
        CHECKS.due("text", Checks.setupText(x),
                "node a rate 5 ceiling 60 burst 7 credit 8 weight 9 priority 2 alone;limit 3;age 4;");
        good("node a;at1a rate5;at 2a ceiling6;", 1);
        fault("nodea;", 1, 0);
        fault("node a1;", 1, 6);
    }

    /** Each byte stands behind a name: a letter goes on with it, a space or a line feed ends it, a digit is a number. */
    private static void everyByte() {
        for (int sign = 0; sign < 256; sign++) {
            String text = "node x" + (char) sign + ";";
            if (sign == ' ' || sign == '\n' || sign >= 'a' && sign <= 'z') {
                good(text, 1);
            } else {
                fault(text, 1, sign == ';' ? 7 : 6);
            }
        }
        for (int sign = 0; sign < 256; sign++) {
            String text = "limit 5" + (char) sign + ";";
            if (sign == ' ' || sign == '\n' || sign >= '0' && sign <= '9') {
                good(text, 0);
            } else {
                fault(text, 1, sign == ';' ? 8 : 7);
            }
        }
        for (int sign = 0; sign < 256; sign++) {
            String text = "" + (char) sign;
            if (sign == ' ' || sign == '\n') {
                good(text, 0);
            } else {
                fault(text, 1, 0);
            }
        }
    }

    private static void wordLength() {
        RateLimiter x = good("node abcdefgh;node zzzzzzzz in abcdefgh;at 1 zzzzzzzz rate 1;", 2);
        CHECKS.due("nameLetter(1, 7)", x.nameLetter(1, 7), 26);
        fault("node abcdefghi;", 1, 5);
        fault("node zzzzzzzzz;", 1, 5);
        fault("node a;node b in zzzzzzzzz;", 1, 17);
        fault("node a;at 1 zzzzzzzzz rate 1;", 1, 12);
        fault("abcdefghi", 1, 0);
        fault("node " + "a".repeat(895), 1, 5);
        // A longer word is one invalid token, not a word of 8 letters with another behind it.
        fault("node a prioritypriority 5;", 1, 7);
        fault("node a priorityrate 5;", 1, 7);
        fault("node abcdefgh;node b in abcdefghi;", 1, 24);
    }

    private static void numberLength() {
        good("limit 0;", 0);
        good("limit 0000;", 0);
        good("limit 0099;", 0);
        fault("limit 00000;", 1, 6);
        fault("limit 00099;", 1, 6);
        fault("limit 12345;", 1, 6);
        fault("limit " + "0".repeat(894), 1, 6);
        // These numbers would be 5 if they were kept in 32 or 64 bits.
        fault("limit 4294967301;", 1, 6);
        fault("limit 18446744073709551621;", 1, 6);
        good("node a;at 5000 a rate 1;", 1);
        fault("node a;at 05000 a rate 1;", 1, 10);
    }

    private static void wordsAreNoNames() {
        for (String word : WORDS) {
            fault("node " + word + ";", 1, 5);
            fault("node a;node " + word + " in a;", 1, 12);
            fault("node a;node b in " + word + ";", 1, 17);
            fault("node a;at 1 " + word + " rate 1;", 1, 12);
        }
    }

    private static void almostWords() {
        for (String word : WORDS) {
            if (word.length() < 8) {
                good("node " + word + "s;", 1);
                good("node a;node x" + word + " in a;at 1 x" + word + " rate 1;", 2);
            }
            if (word.length() > 2) {
                good("node " + word.substring(1) + ";", 1);
            }
            good("node " + word.substring(0, 1) + ";", 1);
        }
        good("node aa;", 1);
        good("node ag;", 1);
        good("node prioritz;", 1);
    }

    // ---- section 5: statements

    private static void firstNodeHasNoIn() {
        fault("node a in a;", 1, 7);
        fault("node a in b;", 1, 7);
        fault("limit 5;node a in a;", 1, 15);
        fault("node a in", 1, 7);
    }

    private static void otherNodesHaveIn() {
        fault("node a;node b;", 1, 13);
        fault("node a;node b rate 1 in a;", 1, 14);
        fault("node a;node b alone;", 1, 14);
        fault("node a;node b c;", 1, 14);
        fault("node a;node b 5;", 1, 14);
        fault("node a;node b node;", 1, 14);
        fault("node a;node b", 1, 13);
        fault("node a;node b ", 1, 14);
        fault("node a;node b !", 1, 14);
        fault("node a;node b in a in a;", 1, 19);
        good("node a;node b in a;", 2);
    }

    private static void leftOut() {
        RateLimiter x = good("node a;node b in a;", 2);
        for (int node = 0; node < 2; node++) {
            CHECKS.due("rate", x.rate(node), 1);
            CHECKS.due("ceiling", x.ceiling(node), 1);
            CHECKS.due("burst", x.burst(node), 10);
            CHECKS.due("creditLimit", x.creditLimit(node), 0);
            CHECKS.due("weight", x.weight(node), 1);
            CHECKS.due("priority", x.priority(node), 0);
            CHECKS.due("mayBorrow", x.mayBorrow(node), true);
        }
    }

    private static void ceilingLeftOut() {
        String text = "node a rate 0;node b in a rate 99;node c in a burst 3 rate 7 weight 2;"
                + "node d in a ceiling 0 rate 9;node e in a rate 9 ceiling 0;node f in a ceiling 5;";
        RateLimiter x = good(text, 6);
        int[] due = {0, 99, 7, 0, 0, 5};
        for (int node = 0; node < 6; node++) {
            CHECKS.due("ceiling(" + node + ")", x.ceiling(node), due[node]);
        }
        CHECKS.due("rate(5)", x.rate(5), 1);
    }

    private static void limitLeftOut() {
        RateLimiter x = good("node a rate 99 burst 999;", 1);
        for (int i = 0; i < 11; i++) {
            x.enqueue(0, 1);
        }
        CHECKS.due("advance(1)", x.advance(1), 10);
        CHECKS.due("queueLength(0)", x.queueLength(0), 1);
    }

    private static void ageLeftOut() {
        RateLimiter x = good("node a rate 0 burst 1;", 1);
        x.enqueue(0, 2);
        for (int i = 0; i < 10; i++) {
            x.advance(500);
        }
        CHECKS.due("ageAt(0, 0)", x.ageAt(0, 0), 5000);
        CHECKS.due("droppedCount(0)", x.droppedCount(0), 0);
    }

    private static void changeTimes() {
        good("node a;at 1 a rate 2;", 1);
        good("node a;at 0001 a rate 2;", 1);
        good("node a;at 5000 a rate 2;", 1);
        fault("node a;at 0 a rate 2;", 2, 10);
        fault("node a;at 0000 a rate 2;", 2, 10);
        fault("node a;at 5001 a rate 2;", 2, 10);
        fault("node a;at 9999 a rate 2;", 2, 10);
    }

    private static void changedSettings() {
        good("node a;at 1 a rate 2;at 1 a ceiling 2;at 1 a weight 2;", 1);
        for (String word : WORDS) {
            if (!word.equals("rate") && !word.equals("ceiling") && !word.equals("weight")) {
                fault("node a;at 1 a " + word + " 1;", 1, 14);
            }
        }
        fault("node a;at 1 a b 1;", 1, 14);
        fault("node a;at 1 a ;", 1, 14);
        fault("node a;at 1 a 1;", 1, 14);
        fault("node a;at 1 a rate 1 rate 1;", 1, 21);
    }

    // ---- section 5: faults

    private static void firstFault() {
        fault("node a rate 100 !", 2, 12);
        fault("node a rate 100 rate", 2, 12);
        fault("limit 100 !", 2, 6);
        fault("node a;node a !", 3, 12);
        fault("limit 1;limit !", 4, 8);
        fault(Wrong.twelve() + "node !", 5, Wrong.twelve().length());
        fault("! node a rate 100", 1, 0);
    }

    private static void positionOfToken() {
        fault("   \n abcdefghi  ", 1, 5);
        fault("limit   123456  ", 1, 8);
        fault("limit \n 100", 2, 8);
        fault("node a;node   a  in a;", 3, 14);
        fault("limit 1;  limit  ", 4, 10);
        fault("node a  ;;", 1, 9);
        fault("node a ;  7", 1, 10);
    }

    private static void endsTooEarly() {
        String[] texts = {"node", "node a", "node a rate", "node a rate 5", "node a alone", "node a;node b",
            "node a;node b in", "node a;node b in a", "limit", "limit 5", "age", "age 5", "node a;at", "node a;at 5",
            "node a;at 5 a", "node a;at 5 a rate", "node a;at 5 a rate 7"};
        for (String text : texts) {
            fault(text, 1, text.length());
            fault(text + " ", 1, text.length() + 1);
            fault(text + " \n ", 1, text.length() + 3);
            String full = " ".repeat(900 - text.length()) + text;
            fault(full, 1, 900);
        }
    }

    private static void lowestCode() {
        String nodes = Wrong.twelve();
        String twelveOpen = nodes.substring(0, nodes.length() - 1);
        // A number that is both too long and out of its range, or that no setup continues with.
        fault("limit 99999;", 1, 6);
        fault("node a rate 10000;", 1, 12);
        fault("node 100;", 1, 5);
        fault("limit 5 100;", 1, 8);
        // A word that is both in a wrong place and a second one.
        fault("limit 5;limit 5 limit 5;", 4, 8);
        fault("limit 5 limit 5;", 1, 8);
        fault("age 5 age 5;", 1, 6);
        fault("limit 5;node a limit 5;", 1, 15);
        fault("node a rate rate 5;", 1, 12);
        fault("node a rate 5;node b rate 5;", 1, 21);
        // A 13th node or change, whose word stands in a wrong place.
        fault(twelveOpen + " node", 1, nodes.length());
        String changes = "node a;" + "at 1 a rate 1;".repeat(12);
        fault(changes.substring(0, changes.length() - 1) + " at", 1, changes.length());
        // A name that is a word in quotes, or too long, and also that of no earlier node.
        fault("node a;node b in rate;", 1, 17);
        fault("node a;node b in abcdefghi;", 1, 17);
        fault("node a;at 1 rate rate 1;", 1, 12);
    }

    private static void unexpected() {
        for (String start : new String[] {"in", "rate", "alone", "x", "7", ";", "weight 5;", "credit", "priority"}) {
            fault(start, 1, 0);
            fault("limit 1;" + start, 1, 8);
        }
        fault("node a;;", 1, 7);
        fault("limit;", 1, 5);
        fault("limit x;", 1, 6);
        fault("age;", 1, 3);
        fault("age rate;", 1, 4);
        fault("at;", 1, 2);
        fault("node a;at a 1 rate 1;", 1, 10);
        fault("node a;at 1;", 1, 11);
        fault("node a;at 1 1 rate 1;", 1, 12);
        fault("node a;at 1 a rate;", 1, 18);
        fault("node a;at 1 a rate rate;", 1, 19);
        fault("node a;at 1 a rate 1 alone;", 1, 21);
        fault("node;", 1, 4);
        fault("node a b;", 1, 7);
        fault("node a alone 1;", 1, 13);
        fault("node a rate 1 2;", 1, 14);
        fault("node a rate alone;", 1, 12);
        fault("node a rate 1 limit 5;", 1, 14);
        fault("node a rate 1 node b;", 1, 14);
        fault("limit 1 2;", 1, 8);
        fault("limit 1 age 2;", 1, 8);
    }

    private static void nameTaken() {
        fault("node a;node a in a;", 3, 12);
        fault("node a;node b in a;node a in b;", 3, 24);
        fault("node a;node b in a;node b in a;", 3, 24);
        fault("node a;node a", 3, 12);
        String eleven = Wrong.twelve().substring(0, Wrong.twelve().indexOf("node l"));
        fault(eleven + "node a in a;", 3, eleven.length() + 5);
        fault(eleven + "node k in a;", 3, eleven.length() + 5);
        good(eleven + "node l in k;", 12);
    }

    private static void parentUnknown() {
        fault("node a;node b in b;", 3, 17);
        fault("node a;node b in c;node c in a;", 3, 17);
        fault("node a;node b in c", 3, 17);
        good("node a;node b in a;node c in b;", 3);
        String eleven = Wrong.twelve().substring(0, Wrong.twelve().indexOf("node l"));
        fault(eleven + "node l in l;", 3, eleven.length() + 10);
        good(eleven + "node l in a;", 12);
    }

    private static void changedNodeUnknown() {
        fault("at 1 a rate 1;", 3, 5);
        fault("at 1 a rate 1;node a;", 3, 5);
        fault("node a;at 1 b rate 1;node b in a;", 3, 12);
        good("node a;node b in a;at 1 b rate 1;at 1 a rate 1;", 2);
        // The names of the setup that was loaded before are no earlier nodes.
        RateLimiter x = good("node a;node b in a;", 2);
        CHECKS.due("load", Checks.load(x, "node c;at 1 b rate 1;"), INVALID);
        CHECKS.due("faultCode()", x.faultCode(), 3);
        CHECKS.due("load", Checks.load(x, "node c;node d in a;"), INVALID);
        CHECKS.due("faultCode()", x.faultCode(), 3);
        CHECKS.due("load", Checks.load(x, "node a;node b in a;"), 2);
    }

    private static void similarNames() {
        String[] names = {"a", "aa", "aaaaaaaa", "aaaaaaab", "baaaaaaa", "aaaaaaa", "b", "z", "za", "az", "zzzzzzzz", "zzzzzzz"};
        StringBuilder text = new StringBuilder("node a;");
        for (int i = 1; i < names.length; i++) {
            text.append("node ").append(names[i]).append(" in ").append(names[i - 1]).append(';');
        }
        RateLimiter x = good(text.toString(), 12);
        for (int i = 1; i < names.length; i++) {
            CHECKS.due("parent(" + i + ")", x.parent(i), i - 1);
        }
        fault("node aaaaaaaa;node b in aaaaaaab;", 3, 24);
        fault("node aaaaaaaa;node b in baaaaaaa;", 3, 24);
        fault("node aaaaaaaa;node b in aaaaaaa;", 3, 24);
        fault("node a;node b in aa;", 3, 17);
        fault("node aa;node b in a;", 3, 18);
    }

    private static void settingTwice() {
        String all = "rate 1 ceiling 1 burst 1 credit 1 weight 1 priority 1 alone ";
        for (String word : new String[] {"rate", "ceiling", "burst", "credit", "weight", "priority", "alone"}) {
            String setting = word.equals("alone") ? word : word + " 1";
            fault("node a " + all + word, 4, 7 + all.length());
            fault("node a " + all + setting + ";", 4, 7 + all.length());
            fault("node a " + setting + " " + setting + ";", 4, 8 + setting.length());
            fault("node a " + all + ";node b in a " + all + word, 4, 20 + 2 * all.length());
            good("node a " + setting + ";node b in a " + setting + ";", 2);
        }
        good("node a " + all + ";node b in a " + all + ";", 2);
    }

    private static void limitTwice() {
        for (String value : new String[] {"0", "10", "99"}) {
            fault("limit " + value + ";limit 5;", 4, 7 + value.length());
            fault("limit " + value + ";node a;limit", 4, 14 + value.length());
        }
        for (String value : new String[] {"0", "999"}) {
            fault("age " + value + ";age 5;", 4, 5 + value.length());
            fault("age " + value + ";node a;age", 4, 12 + value.length());
        }
        good("limit 5;age 5;", 0);
        good("age 5;node a;limit 5;", 1);
        RateLimiter x = good("limit 5;age 5;", 0);
        CHECKS.due("load again", Checks.load(x, "limit 5;age 5;"), 0);
    }

    private static void thirteenthNode() {
        String nodes = Wrong.twelve();
        good(nodes, 12);
        fault(nodes + "node", 5, nodes.length());
        fault(nodes + " node m in a;", 5, nodes.length() + 1);
        fault(nodes + "limit 1;node", 5, nodes.length() + 8);
        good(nodes + "limit 1;age 1;at 1 l rate 1;", 12);
    }

    private static void thirteenthChange() {
        String changes = "node a;" + "at 1 a rate 1;".repeat(12);
        good(changes, 1);
        fault(changes + "at", 5, changes.length());
        fault(changes + " at 0 b", 5, changes.length() + 1);
        good(changes + "node b in a;limit 1;", 2);
        String others = "node a;" + "at 5000 a ceiling 999;at 1 a weight 9;at 7 a rate 0;".repeat(4);
        good(others, 1);
        fault(others + "node b in a;at 1 b rate 1;", 5, others.length() + 12);
    }

    private static void replacesEverything() {
        RateLimiter x = Twins.busy();
        x.save(1);
        x.truncate(0);
        String text = "node p rate 3 burst 20;node q in p weight 2;";
        CHECKS.due("load", Checks.load(x, text), 2);
        RateLimiter fresh = Checks.loaded(text);
        CHECKS.due("all answers", Twins.answers(x), Twins.answers(fresh));
        CHECKS.due("all that is hidden", Twins.hidden(x), Twins.hidden(fresh));
        RateLimiter y = Twins.busy();
        y.truncate(0);
        y.load();
        CHECKS.due("all answers after load of nothing", Twins.answers(y), Twins.answers(new RateLimiter()));
        CHECKS.due("all that is hidden", Twins.hidden(y), Twins.hidden(new RateLimiter()));
    }

    private static void replacesAgain() {
        String long1 = "node a alone rate 9;node b in a alone;node c in b alone weight 2;limit 3;age 4;at 9 c rate 9;";
        String short1 = "node d burst 50;node e in d;node f in d;";
        for (String between : new String[] {"", "node x", long1 + "!", "limit 3;age 4;node a alone;at 1 a rate 7;node"}) {
            RateLimiter x = Checks.loaded(long1);
            for (int turn = 0; turn < 3; turn++) {
                Checks.load(x, between);
                CHECKS.due("load", Checks.load(x, short1), 3);
                CHECKS.due("faultCode()", x.faultCode(), 0);
                CHECKS.due("isLeaf(0)", x.isLeaf(0), false);
                CHECKS.due("isLeaf(1)", x.isLeaf(1), true);
                CHECKS.due("depth(2)", x.depth(2), 1);
                CHECKS.due("mayBorrow(0)", x.mayBorrow(0), true);
            }
            Checks.load(x, between);
            CHECKS.due("load", Checks.load(x, short1), 3);
            RateLimiter fresh = Checks.loaded(short1);
            CHECKS.due("all answers", Twins.answers(x), Twins.answers(fresh));
            CHECKS.due("all that is hidden", Twins.hidden(x), Twins.hidden(fresh));
        }
        RateLimiter y = Checks.loaded("node a;node b in a;");
        CHECKS.due("load", Checks.load(y, "node c;"), 1);
        CHECKS.due("load", Checks.load(y, "node d;node e in d;node f in e;"), 3);
        CHECKS.due("depth(2)", y.depth(2), 2);
        CHECKS.due("load", Checks.load(y, "node g;"), 1);
        CHECKS.due("depth(0)", y.depth(0), 0);
        CHECKS.due("isLeaf(0)", y.isLeaf(0), true);
    }

    private static void noNodesNoLeaves() {
        RateLimiter x = Twins.busy();
        x.truncate(0);
        CHECKS.due("load", Checks.load(x, "limit 3;age 2;"), 0);
        for (int node = -1; node < 13; node++) {
            CHECKS.due("isLeaf", x.isLeaf(node), false);
            CHECKS.due("queueLength", x.queueLength(node), INVALID);
            CHECKS.due("lender", x.lender(node, 1), INVALID);
            CHECKS.due("enqueue", x.enqueue(node, 1), INVALID);
        }
        CHECKS.due("nextLeaf()", x.nextLeaf(), NONE);
        CHECKS.due("advance(1)", x.advance(1), INVALID);
        CHECKS.due("fairness()", x.fairness(), INVALID);
        CHECKS.due("mostServed()", x.mostServed(), NONE);
        CHECKS.due("logCount()", x.logCount(), 0);
        CHECKS.due("text", Checks.setupText(x), "limit 3;age 2;");
    }
}
