/** Promises 1 to 6: a new object, feed, truncate, load, faultCode, faultPosition, with the setup text's grammar. */
final class SetupTest {
    private static final Checks CHECKS = new Checks("SetupTest");

    public static void main(String[] args) {
        newObject();
        feedAndTruncate();
        bytesInOrder();
        wholeSetups();
        unexpectedTokens();
        invalidTokens();
        endsTooEarly();
        numbersOutOfRange();
        wrongNames();
        repeatedWords();
        tooMany();
        firstFaultCounts();
        loadReplaces();
        loadWithFaultKeeps();
        loadLeavesNothingBehind();
        loadAfterFault();
        CHECKS.finish();
    }

    private static void fault(String text, int code, int position) {
        RateLimiter x = new RateLimiter();
        CHECKS.due("load of '" + text + "'", Checks.load(x, text), RateLimiter.INVALID);
        CHECKS.due("faultCode of '" + text + "'", x.faultCode(), code);
        CHECKS.due("faultPosition of '" + text + "'", x.faultPosition(), position);
        CHECKS.due("nodeCount after the fault", x.nodeCount(), 0);
        CHECKS.due("truncate(1) of the emptied buffer", x.truncate(1), RateLimiter.INVALID);
    }

    private static void good(String text, int nodes) {
        RateLimiter x = new RateLimiter();
        CHECKS.due("load of '" + text + "'", Checks.load(x, text), nodes);
        CHECKS.due("faultCode of '" + text + "'", x.faultCode(), 0);
        CHECKS.due("faultPosition of '" + text + "'", x.faultPosition(), RateLimiter.NONE);
        CHECKS.due("nodeCount of '" + text + "'", x.nodeCount(), nodes);
        CHECKS.due("truncate(1) of the emptied buffer", x.truncate(1), RateLimiter.INVALID);
    }

    private static void newObject() {
        RateLimiter x = new RateLimiter();
        CHECKS.due("INVALID", RateLimiter.INVALID, -1);
        CHECKS.due("NONE", RateLimiter.NONE, -2);
        CHECKS.due("nodeCount()", x.nodeCount(), 0);
        CHECKS.due("truncate(0)", x.truncate(0), 0);
        CHECKS.due("truncate(1)", x.truncate(1), RateLimiter.INVALID);
        CHECKS.due("faultCode()", x.faultCode(), 0);
        CHECKS.due("faultPosition()", x.faultPosition(), RateLimiter.NONE);
        CHECKS.due("time()", x.time(), 0);
        CHECKS.due("nextLeaf()", x.nextLeaf(), RateLimiter.NONE);
        CHECKS.due("advance(1)", x.advance(1), RateLimiter.INVALID);
        CHECKS.due("text", Checks.setupText(x), "limit 10;");
    }

    private static void feedAndTruncate() {
        RateLimiter x = new RateLimiter();
        for (int i = 1; i <= 45; i++) {
            CHECKS.due("feed " + i, x.feed(0x20202020, 0x20202020, 0x20202020, 0x20202020, 0x20202020), 20 * i);
        }
        CHECKS.due("feed beyond 900", x.feed(0, 0, 0, 0, 0), RateLimiter.INVALID);
        CHECKS.due("truncate(901)", x.truncate(901), RateLimiter.INVALID);
        CHECKS.due("truncate(-1)", x.truncate(-1), RateLimiter.INVALID);
        CHECKS.due("truncate(MAX)", x.truncate(Integer.MAX_VALUE), RateLimiter.INVALID);
        CHECKS.due("truncate(900)", x.truncate(900), 900);
        CHECKS.due("truncate(881)", x.truncate(881), 881);
        CHECKS.due("feed at 881", x.feed(0, 0, 0, 0, 0), RateLimiter.INVALID);
        CHECKS.due("truncate(880)", x.truncate(880), 880);
        CHECKS.due("feed at 880", x.feed(0x20202020, 0x20202020, 0x20202020, 0x20202020, 0x20202021), 900);
        CHECKS.due("load", x.load(), RateLimiter.INVALID);
        CHECKS.due("faultPosition", x.faultPosition(), 899);
        CHECKS.due("feed after load", x.feed(0, 0, 0, 0, 0), 20);
        CHECKS.due("truncate(0)", x.truncate(0), 0);
        CHECKS.due("load of nothing", x.load(), 0);
    }

    private static void bytesInOrder() {
        RateLimiter x = new RateLimiter();
        x.feed(0x6e6f6465, 0x20616263, 0x64656667, 0x68207261, 0x74652037);
        x.feed(0x3b202020, 0x20202020, 0x20202020, 0x20202020, 0x20202020);
        CHECKS.due("load", x.load(), 1);
        CHECKS.due("text", Checks.setupText(x),
                "node abcdefgh rate 7 ceiling 7 burst 10 credit 0 weight 1 priority 0;limit 10;");
        x.feed(0xffffffff, 0x80000000, 0, 0, 0);
        CHECKS.due("load of high bytes", x.load(), RateLimiter.INVALID);
        CHECKS.due("faultPosition", x.faultPosition(), 0);
    }

    private static void wholeSetups() {
        good("", 0);
        good("  \n ", 0);
        good("limit 0;", 0);
        good("limit 99;age 0;", 0);
        good("age 999;", 0);
        good("node a;", 1);
        good("\n node\na\n; ", 1);
        good("node a;node b in a;node c in b;", 3);
        good("node a alone;", 1);
        good("node a rate5ceiling 6;", 1);
        good("node a rate 0099 ceiling 0999 burst 0999 credit 0999 weight 0009 priority 0007;", 1);
        good("node a priority 7 weight 9 credit 999 burst 999 ceiling 999 rate 99 alone;", 1);
        good("node a rate 0 ceiling 0 burst 1 credit 0 weight 1 priority 0;", 1);
        good("node abcdefgh;at 1 abcdefgh rate 0;at 5000 abcdefgh ceiling 999;at 1 abcdefgh weight 9;", 1);
        good("limit 1;node a;age 1;node b in a;at 1 b rate 1;", 2);
        good("node ins;node nodes in ins;node a in ins;", 3);
        StringBuilder many = new StringBuilder("node a;");
        for (int i = 1; i < 12; i++) {
            many.append("node ").append((char) ('a' + i)).append(" in a;");
        }
        for (int i = 0; i < 12; i++) {
            many.append("at ").append(i + 1).append(" a rate 1;");
        }
        good(many.toString(), 12);
    }

    private static void unexpectedTokens() {
        fault(";", 1, 0);
        fault("node a;;", 1, 7);
        fault("x", 1, 0);
        fault("rate 5;", 1, 0);
        fault("7;", 1, 0);
        fault("in a;", 1, 0);
        fault("alone;", 1, 0);
        fault("node 5;", 1, 5);
        fault("node ;", 1, 5);
        fault("node rate;", 1, 5);
        for (String word : new String[] {"node", "in", "limit", "age", "at", "rate", "ceiling", "weight", "burst",
            "credit", "priority", "alone"}) {
            fault("node " + word + ";", 1, 5);
            fault("node a;node b in " + word + ";", 1, 17);
            fault("node a;at 1 " + word + " rate 1;", 1, 12);
        }
        fault("node a in a;", 1, 7);
        fault("node a b;", 1, 7);
        fault("node a 5;", 1, 7);
        fault("node a limit 5;", 1, 7);
        fault("node a;node b;", 1, 13);
        fault("node a; node b rate 1 in a;", 1, 15);
        fault("node a; node b in 5;", 1, 18);
        fault("node a; node b in a in a;", 1, 20);
        fault("node a rate;", 1, 11);
        fault("node a rate rate 5;", 1, 12);
        fault("node a rate 5 5;", 1, 14);
        fault("node a alone 5;", 1, 13);
        fault("node a rate 5 in a;", 1, 14);
        fault("limit;", 1, 5);
        fault("limit a;", 1, 6);
        fault("limit 5 5;", 1, 8);
        fault("limit 5 age 5;", 1, 8);
        fault("age;", 1, 3);
        fault("age a;", 1, 4);
        fault("age 5 limit 5;", 1, 6);
        fault("node a;at a 1 rate 1;", 1, 10);
        fault("node a;at 1 1 rate 1;", 1, 12);
        fault("node a;at 1 a burst 1;", 1, 14);
        fault("node a;at 1 a credit 1;", 1, 14);
        fault("node a;at 1 a priority 1;", 1, 14);
        fault("node a;at 1 a alone;", 1, 14);
        fault("node a;at 1 a 5;", 1, 14);
        fault("node a;at 1 a rate;", 1, 18);
        fault("node a;at 1 a rate 5 5;", 1, 21);
        fault("node a;at 1 a rate 5 ceiling 5;", 1, 21);
    }

    private static void invalidTokens() {
        fault("!", 1, 0);
        fault("node a;  A", 1, 9);
        fault("node a;\t", 1, 7);
        fault("node a;\r", 1, 7);
        fault("node a;\0", 1, 7);
        fault("node a;\u00e9", 1, 7);
        fault("node a;`", 1, 7);
        fault("node a;{", 1, 7);
        fault("node a;/", 1, 7);
        fault("node a;:", 1, 7);
        fault("node abcdefghi;", 1, 5);
        fault("node abcdefghabcdefghabcdefgh;", 1, 5);
        fault("node a; node b in abcdefghi;", 1, 18);
        fault("nodeaaaaa", 1, 0);
        fault("node a prioritya 5;", 1, 7);
        fault("node a rate 12345;", 1, 12);
        fault("node a rate 00001;", 1, 12);
        fault("node a rate 4294967297;", 1, 12);
        fault("limit 00005;", 1, 6);
        fault("limit -5;", 1, 6);
        fault("node a rate 5.5;", 1, 13);
        fault("node B;", 1, 5);
        fault("node aB;", 1, 6);
    }

    private static void endsTooEarly() {
        fault("node", 1, 4);
        fault("node  \n", 1, 7);
        fault("node a", 1, 6);
        fault("node a ", 1, 7);
        fault("node a rate", 1, 11);
        fault("node a rate 5", 1, 13);
        fault("node a alone", 1, 12);
        fault("node a;node b", 1, 13);
        fault("node a;node b in", 1, 16);
        fault("node a;node b in a", 1, 18);
        fault("limit", 1, 5);
        fault("limit 5", 1, 7);
        fault("age", 1, 3);
        fault("age 5", 1, 5);
        fault("node a;at", 1, 9);
        fault("node a;at 5", 1, 11);
        fault("node a;at 5 a", 1, 13);
        fault("node a;at 5 a rate", 1, 18);
        fault("node a;at 5 a rate 7", 1, 20);
    }

    private static void numbersOutOfRange() {
        fault("node a rate 100;", 2, 12);
        fault("node a ceiling 1000;", 2, 15);
        fault("node a burst 0;", 2, 13);
        fault("node a burst 1000;", 2, 13);
        fault("node a credit 1000;", 2, 14);
        fault("node a weight 0;", 2, 14);
        fault("node a weight 10;", 2, 14);
        fault("node a priority 8;", 2, 16);
        fault("limit 100;", 2, 6);
        fault("age 1000;", 2, 4);
        fault("node a;at 0 a rate 1;", 2, 10);
        fault("node a;at 5001 a rate 1;", 2, 10);
        fault("node a;at 1 a rate 100;", 2, 19);
        fault("node a;at 1 a ceiling 1000;", 2, 22);
        fault("node a;at 1 a weight 0;", 2, 21);
        fault("node a;at 1 a weight 10;", 2, 21);
    }

    private static void wrongNames() {
        fault("node a;node a in a;", 3, 12);
        fault("node a;node b in a;node b in a;", 3, 24);
        fault("node a;node b in c;", 3, 17);
        fault("node a;node b in b;", 3, 17);
        fault("node a;node b in aa;", 3, 17);
        fault("at 1 a rate 5;", 3, 5);
        fault("node a;at 1 b rate 5;node b in a;", 3, 12);
    }

    private static void repeatedWords() {
        String all = "node a rate 1 ceiling 1 burst 1 credit 1 weight 1 priority 1 alone ";
        for (String word : new String[] {"rate", "ceiling", "burst", "credit", "weight", "priority", "alone"}) {
            fault(all + word + " x", 4, all.length());
            good("node a " + word + (word.equals("alone") ? "" : " 1") + ";node b in a " + word
                    + (word.equals("alone") ? "" : " 1") + ";", 2);
        }
        fault("limit 5;limit 5;", 4, 8);
        fault("limit 10;limit", 4, 9);
        fault("limit 0;limit", 4, 8);
        fault("age 5;age 5;", 4, 6);
        fault("age 0;age", 4, 6);
    }

    private static void tooMany() {
        StringBuilder nodes = new StringBuilder("node a;");
        for (int i = 1; i < 12; i++) {
            nodes.append("node ").append((char) ('a' + i)).append(" in a;");
        }
        fault(nodes + "node", 5, nodes.length());
        fault(nodes + "node a", 5, nodes.length());
        StringBuilder changes = new StringBuilder("node a;");
        for (int i = 0; i < 12; i++) {
            changes.append("at 1 a rate 1;");
        }
        fault(changes + "at", 5, changes.length());
        fault(changes + "at 0 b", 5, changes.length());
        good(changes + "node b in a;", 2);
    }

    private static void firstFaultCounts() {
        fault("node a rate 100 !", 2, 12);
        fault("node a rate 100 rate 100", 2, 12);
        fault("node a;node b in c rate 100;", 3, 17);
        fault("limit 100", 2, 6);
    }

    private static void loadReplaces() {
        RateLimiter x = Checks.loaded("node a rate 9 burst 20 alone;node b in a;limit 3;age 7;at 3 b rate 2;");
        x.advance(2);
        x.acquire(1, 5);
        x.enqueue(1, 9);
        x.save(0);
        x.save(1);
        CHECKS.due("load", Checks.load(x, "node c rate 3;"), 1);
        CHECKS.due("time()", x.time(), 0);
        CHECKS.due("tokens(0)", x.tokens(0), 10);
        CHECKS.due("sentCost(0)", x.sentCost(0), 0);
        CHECKS.due("logCount()", x.logCount(), 0);
        CHECKS.due("queueLength(0)", x.queueLength(0), 0);
        CHECKS.due("enqueue(0, 1)", x.enqueue(0, 1), 0);
        CHECKS.due("restore(0)", x.restore(0), false);
        CHECKS.due("restore(1)", x.restore(1), false);
        CHECKS.due("text", Checks.setupText(x),
                "node c rate 3 ceiling 3 burst 10 credit 0 weight 1 priority 0;limit 10;");
        CHECKS.due("load of nothing", x.load(), 0);
        CHECKS.due("text", Checks.setupText(x), "limit 10;");
        CHECKS.due("queueLength(0)", x.queueLength(0), RateLimiter.INVALID);
    }

    private static void loadWithFaultKeeps() {
        RateLimiter x = Checks.loaded("node a rate 9 burst 20;limit 3;age 7;at 9 a rate 2;");
        x.advance(2);
        x.acquire(0, 5);
        x.enqueue(0, 9);
        x.save(0);
        String before = Checks.setupText(x);
        CHECKS.due("load", Checks.load(x, "limit 5;age 5;node c;node d in c;at 1 c rate 4;oh"), RateLimiter.INVALID);
        CHECKS.due("faultCode()", x.faultCode(), 1);
        CHECKS.due("faultPosition()", x.faultPosition(), 47);
        CHECKS.due("text", Checks.setupText(x), before);
        CHECKS.due("time()", x.time(), 2);
        CHECKS.due("tokens(0)", x.tokens(0), 15);
        CHECKS.due("queueLength(0)", x.queueLength(0), 1);
        CHECKS.due("logCount()", x.logCount(), 1);
        CHECKS.due("restore(0)", x.restore(0), true);
        CHECKS.due("faultCode() after restore", x.faultCode(), 1);
        CHECKS.due("load of nothing", x.load(), 0);
        CHECKS.due("faultCode()", x.faultCode(), 0);
        CHECKS.due("faultPosition()", x.faultPosition(), RateLimiter.NONE);
    }

    /** Several loads one after the other, since the object may use its rows in turn. */
    private static void loadLeavesNothingBehind() {
        RateLimiter x = new RateLimiter();
        for (int turn = 0; turn < 4; turn++) {
            CHECKS.due("load", Checks.load(x, "node a alone;node b in a alone;node c in b alone;limit 3;age 4;"
                    + "at 9 c rate 9;"), 3);
            x.enqueue(2, 5);
            CHECKS.due("depth(2)", x.depth(2), 2);
            CHECKS.due("load", Checks.load(x, "node a rate 9 burst 9 credit 50;"), 1);
            CHECKS.due("isLeaf(0)", x.isLeaf(0), true);
            CHECKS.due("mayBorrow(0)", x.mayBorrow(0), true);
            CHECKS.due("text", Checks.setupText(x),
                    "node a rate 9 ceiling 9 burst 9 credit 50 weight 1 priority 0;limit 10;");
            CHECKS.due("enqueue(0, 5)", x.enqueue(0, 5), 0);
            x.acquire(0, 9);
            x.advance(9);
            CHECKS.due("credit(0)", x.credit(0), 50);
            for (int i = 0; i < 20; i++) {
                x.enqueue(0, 9);
            }
            CHECKS.due("load", Checks.load(x, "node d;node e in d;node f in d;"), 3);
            CHECKS.due("depth(2)", x.depth(2), 1);
            CHECKS.due("isLeaf(1)", x.isLeaf(1), true);
            CHECKS.due("mayBorrow(1)", x.mayBorrow(1), true);
            CHECKS.due("load", Checks.load(x, "node g rate 0 ceiling 9;"), 1);
            CHECKS.due("mayBorrow(0)", x.mayBorrow(0), true);
            CHECKS.due("credit(0)", x.credit(0), 0);
            CHECKS.due("sentCost(0)", x.sentCost(0), 0);
            CHECKS.due("sentCount(0)", x.sentCount(0), 0);
            CHECKS.due("droppedCount(0)", x.droppedCount(0), 0);
            CHECKS.due("queueLength(0)", x.queueLength(0), 0);
            CHECKS.due("logCount()", x.logCount(), 0);
        }
        String lenders = "node a ceiling 99 burst 99;node b in a rate 0 ceiling 9 burst 9;";
        Checks.load(x, lenders);
        x.acquire(1, 9);
        x.advance(1);
        x.acquire(1, 9);
        CHECKS.due("lentCost(0)", x.lentCost(0), 9);
        CHECKS.due("borrowedCost(1)", x.borrowedCost(1), 9);
        Checks.load(x, lenders);
        CHECKS.due("lentCost(0)", x.lentCost(0), 0);
        CHECKS.due("borrowedCost(1)", x.borrowedCost(1), 0);
    }

    private static void loadAfterFault() {
        RateLimiter x = new RateLimiter();
        for (String text : new String[] {"node", "node a", "node a;node b", "node a rate", "limit", "limit 5", "age",
            "age 5", "at", "node a;at 1", "node a;at 1 a", "node a;at 1 a rate", "node a;at 1 a rate 1"}) {
            CHECKS.due("load of '" + text + "'", Checks.load(x, text), RateLimiter.INVALID);
            CHECKS.due("load", Checks.load(x, "limit 1;age 2;node a;at 1 a rate 2;node b in a;"), 2);
            CHECKS.due("faultCode()", x.faultCode(), 0);
        }
    }
}
