/** Promises 26 to 33: lender, greatestCost, acquire, enqueue, waitTime, repeats, refusal and blockingNode. */
final class RequestTest {
    private static final Checks CHECKS = new Checks("RequestTest");
    private static final int INVALID = RateLimiter.INVALID;
    private static final int NONE = RateLimiter.NONE;

    public static void main(String[] args) {
        wrongArguments();
        lenders();
        aloneAsksNobody();
        rootAlone();
        headroomStops();
        greatestCosts();
        acquireAccounts();
        creditPays();
        tokensAboveStopAtZero();
        acquirePassesQueue();
        enqueueNumbers();
        fullQueue();
        waits();
        waitLooksAtNeitherQueuesNorChanges();
        waitForLenderAbove();
        repeatsInThought();
        refusals();
        blocking();
        twelveNodes();
        CHECKS.finish();
    }

    private static void wrongArguments() {
        RateLimiter[] limiters = {new RateLimiter(), Checks.loaded("node a burst 200;node b in a burst 200;")};
        for (RateLimiter x : limiters) {
            int[][] wrong = {{-1, 1}, {0, 1}, {x.nodeCount(), 1}, {12, 1}, {Integer.MIN_VALUE, 1},
                {Integer.MAX_VALUE, 1}, {1, 0}, {1, -1}, {1, 100}, {1, Integer.MIN_VALUE}, {1, Integer.MAX_VALUE}};
            for (int[] a : wrong) {
                CHECKS.due("lender", x.lender(a[0], a[1]), INVALID);
                CHECKS.due("acquire", x.acquire(a[0], a[1]), INVALID);
                CHECKS.due("enqueue", x.enqueue(a[0], a[1]), INVALID);
                CHECKS.due("waitTime", x.waitTime(a[0], a[1]), INVALID);
                CHECKS.due("repeats", x.repeats(a[0], a[1]), INVALID);
                CHECKS.due("refusal", x.refusal(a[0], a[1]), INVALID);
                CHECKS.due("blockingNode", x.blockingNode(a[0], a[1]), INVALID);
            }
            for (int leaf : new int[] {-1, 0, x.nodeCount(), 12, Integer.MIN_VALUE, Integer.MAX_VALUE}) {
                CHECKS.due("greatestCost", x.greatestCost(leaf), INVALID);
            }
            CHECKS.due("logCount()", x.logCount(), 0);
        }
        RateLimiter x = limiters[1];
        CHECKS.due("queueLength(1)", x.queueLength(1), 0);
        CHECKS.due("droppedCount(1)", x.droppedCount(1), 0);
        CHECKS.due("lender(1, 99)", x.lender(1, 99), 1);
        CHECKS.due("lender(1, 1)", x.lender(1, 1), 1);
    }

    /** A chain whose upper nodes have more: d may borrow of c, c of b, b of a. */
    private static RateLimiter chain() {
        return Checks.loaded("node a rate 0 ceiling 99 burst 90;node b in a rate 0 ceiling 99 burst 70;"
                + "node c in b rate 0 ceiling 99 burst 80;node d in c rate 0 ceiling 99 burst 99;");
    }

    private static void lenders() {
        RateLimiter x = chain();
        x.acquire(3, 70);
        x.advance(1);
        // Tokens now: a 20, b 0, c 10, d 29; all headroom is full.
        CHECKS.due("lender(3, 29)", x.lender(3, 29), 3);
        CHECKS.due("lender(3, 30)", x.lender(3, 30), NONE);
        x.acquire(3, 25);
        // Tokens now: a 0, b 0, c 0, d 4.
        CHECKS.due("lender(3, 4)", x.lender(3, 4), 3);
        CHECKS.due("lender(3, 5)", x.lender(3, 5), NONE);
        RateLimiter y = Checks.loaded("node a burst 50;node b in a burst 20;node c in b burst 60;node d in b burst 20;");
        y.acquire(3, 15);
        // Tokens now: a 35, b 5, c 60, d 5; headroom: a 35, b 5, c 60, d 5.
        CHECKS.due("lender(3, 6)", y.lender(3, 6), NONE);
        y.setCeiling(0, 99);
        y.setCeiling(1, 99);
        y.setCeiling(3, 99);
        y.advance(1);
        // Tokens now: a 36, b 6, c 60, d 6; all headroom is full: a 50, b 20, c 60, d 20.
        CHECKS.due("lender(3, 6)", y.lender(3, 6), 3);
        CHECKS.due("lender(3, 7)", y.lender(3, 7), 0);
        CHECKS.due("lender(3, 20)", y.lender(3, 20), 0);
        CHECKS.due("lender(3, 21)", y.lender(3, 21), NONE);
    }

    private static void aloneAsksNobody() {
        String tree = "node a burst 99 ceiling 99;node b in a burst 99 ceiling 99 rate 0";
        RateLimiter x = Checks.loaded(tree + " alone;");
        x.acquire(1, 60);
        x.advance(1);
        CHECKS.due("lender(1, 39)", x.lender(1, 39), 1);
        CHECKS.due("lender(1, 40)", x.lender(1, 40), NONE);
        CHECKS.due("refusal(1, 40)", x.refusal(1, 40), 2);
        RateLimiter y = Checks.loaded(tree + ";");
        y.acquire(1, 60);
        y.advance(1);
        CHECKS.due("lender(1, 40)", y.lender(1, 40), 0);
        RateLimiter w = Checks.loaded("node a burst 99 ceiling 99 rate 99;node b in a burst 99 ceiling 99 rate 0 alone;"
                + "node c in b burst 99 ceiling 99 rate 0;");
        w.acquire(2, 60);
        w.advance(1);
        CHECKS.due("lender(2, 39)", w.lender(2, 39), 2);
        CHECKS.due("lender(2, 40)", w.lender(2, 40), NONE);
        CHECKS.due("tokens(0)", w.tokens(0), 99);
    }

    private static void rootAlone() {
        RateLimiter x = Checks.loaded("node a burst 50 ceiling 99 rate 99 alone;node b in a rate 0 burst 50 ceiling 99;");
        CHECKS.due("acquire(1, 50)", x.acquire(1, 50), 0);
        x.advance(1);
        CHECKS.due("lender(1, 50)", x.lender(1, 50), 0);
        CHECKS.due("mayBorrow(0)", x.mayBorrow(0), false);
    }

    private static void headroomStops() {
        RateLimiter x = Checks.loaded("node a burst 50 rate 50 ceiling 5;node b in a burst 99;node c in a burst 99;");
        CHECKS.due("acquire(1, 45)", x.acquire(1, 45), 0);
        CHECKS.due("headroom(0)", x.headroom(0), 5);
        CHECKS.due("lender(2, 5)", x.lender(2, 5), 2);
        CHECKS.due("lender(2, 6)", x.lender(2, 6), NONE);
        CHECKS.due("refusal(2, 6)", x.refusal(2, 6), 1);
        CHECKS.due("blockingNode(2, 6)", x.blockingNode(2, 6), 0);
    }

    private static void greatestCosts() {
        RateLimiter x = Checks.loaded("node a burst 999 ceiling 9;node b in a burst 999;node c in a burst 7;");
        CHECKS.due("greatestCost(1)", x.greatestCost(1), 99);
        CHECKS.due("greatestCost(2)", x.greatestCost(2), 7);
        x.acquire(2, 7);
        CHECKS.due("greatestCost(2), no headroom", x.greatestCost(2), 0);
        x.setCeiling(2, 4);
        x.advance(1);
        CHECKS.due("greatestCost(2), borrowing", x.greatestCost(2), 4);
        x.acquire(2, 3);
        CHECKS.due("greatestCost(2), least headroom", x.greatestCost(2), 1);
        RateLimiter y = Checks.loaded("node a rate 0 ceiling 99 burst 9 credit 30;");
        y.acquire(0, 9);
        y.advance(1);
        CHECKS.due("greatestCost(0), no tokens", y.greatestCost(0), 0);
        y.setRate(0, 25);
        y.advance(1);
        CHECKS.due("tokens and credit", y.tokens(0) + y.credit(0), 25);
        CHECKS.due("greatestCost(0), headroom", y.greatestCost(0), 9);
    }

    private static void acquireAccounts() {
        RateLimiter x = Checks.loaded("node a burst 100 ceiling 99;node b in a burst 80 ceiling 99;"
                + "node c in b burst 30 ceiling 99 rate 0;");
        CHECKS.due("acquire(2, 30)", x.acquire(2, 30), 0);
        int[][] due = {{70, 70}, {50, 50}, {0, 0}};
        for (int node = 0; node < 3; node++) {
            CHECKS.due("tokens(" + node + ")", x.tokens(node), due[node][0]);
            CHECKS.due("headroom(" + node + ")", x.headroom(node), due[node][1]);
        }
        CHECKS.due("acquire(2, 1)", x.acquire(2, 1), NONE);
        CHECKS.due("logCount()", x.logCount(), 1);
        CHECKS.due("sentCount(2)", x.sentCount(2), 1);
        x.advance(1);
        CHECKS.due("acquire(2, 20)", x.acquire(2, 20), 1);
        int[][] then = {{51, 80}, {31, 60}, {0, 10}};
        for (int node = 0; node < 3; node++) {
            CHECKS.due("tokens(" + node + ")", x.tokens(node), then[node][0]);
            CHECKS.due("headroom(" + node + ")", x.headroom(node), then[node][1]);
        }
        CHECKS.due("borrowedCost(2)", x.borrowedCost(2), 20);
        CHECKS.due("lentCost(1)", x.lentCost(1), 20);
        CHECKS.due("lentCost(0)", x.lentCost(0), 0);
        x.setRate(2, 99);
        x.setRate(0, 99);
        x.setRate(1, 0);
        x.advance(1);
        x.acquire(2, 30);
        x.setRate(2, 0);
        x.advance(1);
        CHECKS.due("tokens(1)", x.tokens(1), 1);
        CHECKS.due("acquire(2, 5)", x.acquire(2, 5), 2);
        CHECKS.due("tokens(1) below the lender", x.tokens(1), 1);
        CHECKS.due("headroom(1) below the lender", x.headroom(1), 75);
        CHECKS.due("tokens(0)", x.tokens(0), 95);
        CHECKS.due("lentCost(0)", x.lentCost(0), 5);
    }

    private static void creditPays() {
        RateLimiter x = Checks.loaded("node a rate 10 ceiling 99 burst 20 credit 30;");
        x.advance(3);
        CHECKS.due("acquire(0, 15)", x.acquire(0, 15), 0);
        x.setRate(0, 0);
        x.advance(1);
        CHECKS.due("tokens(0)", x.tokens(0), 5);
        CHECKS.due("credit(0)", x.credit(0), 30);
        CHECKS.due("acquire(0, 20)", x.acquire(0, 20), 0);
        CHECKS.due("tokens(0)", x.tokens(0), 0);
        CHECKS.due("credit(0)", x.credit(0), 15);
        x.advance(1);
        CHECKS.due("greatestCost(0)", x.greatestCost(0), 15);
    }

    private static void tokensAboveStopAtZero() {
        RateLimiter x = Checks.loaded("node a rate 0 ceiling 99 burst 20 credit 5;node b in a rate 20 ceiling 99 burst 20;"
                + "node c in a rate 20 ceiling 99 burst 20;");
        x.acquire(1, 15);
        x.advance(1);
        CHECKS.due("tokens(0)", x.tokens(0), 5);
        CHECKS.due("acquire(2, 15)", x.acquire(2, 15), 0);
        CHECKS.due("tokens(0)", x.tokens(0), 0);
        CHECKS.due("headroom(0)", x.headroom(0), 5);
        RateLimiter y = Checks.loaded("node a rate 3 ceiling 99 burst 20 credit 5;node b in a rate 20 ceiling 99 burst 20;");
        y.advance(2);
        CHECKS.due("credit(0)", y.credit(0), 5);
        y.acquire(1, 18);
        y.advance(1);
        y.acquire(1, 19);
        CHECKS.due("tokens(0)", y.tokens(0), 0);
        CHECKS.due("credit(0) of a node above the lender", y.credit(0), 5);
    }

    private static void acquirePassesQueue() {
        RateLimiter x = Checks.loaded("node a burst 20;");
        x.enqueue(0, 20);
        CHECKS.due("acquire(0, 5)", x.acquire(0, 5), 0);
        CHECKS.due("queueLength(0)", x.queueLength(0), 1);
        CHECKS.due("loggedCost(0)", x.loggedCost(0), 5);
    }

    private static void enqueueNumbers() {
        RateLimiter x = Checks.loaded("node a;node b in a;node c in a;");
        CHECKS.due("enqueue(1, 99)", x.enqueue(1, 99), 0);
        CHECKS.due("enqueue(2, 1)", x.enqueue(2, 1), 1);
        CHECKS.due("enqueue(1, 5)", x.enqueue(1, 5), 2);
        CHECKS.due("enqueue(0, 5)", x.enqueue(0, 5), INVALID);
        CHECKS.due("acquire(1, 1)", x.acquire(1, 1), 0);
        CHECKS.due("enqueue(2, 5)", x.enqueue(2, 5), 3);
        x.clearQueue(2);
        CHECKS.due("enqueue(2, 5)", x.enqueue(2, 5), 4);
    }

    private static void fullQueue() {
        RateLimiter x = Checks.loaded("node a;node b in a;node c in a;");
        for (int i = 0; i < 16; i++) {
            CHECKS.due("enqueue(1, 9)", x.enqueue(1, 9), i);
        }
        CHECKS.due("enqueue(1, 9) of a full queue", x.enqueue(1, 9), NONE);
        CHECKS.due("droppedCount(1)", x.droppedCount(1), 1);
        CHECKS.due("queueLength(1)", x.queueLength(1), 16);
        CHECKS.due("enqueue(2, 9)", x.enqueue(2, 9), 16);
        CHECKS.due("droppedCount(2)", x.droppedCount(2), 0);
        CHECKS.due("enqueue(1, 100) of a full queue", x.enqueue(1, 100), INVALID);
        CHECKS.due("droppedCount(1)", x.droppedCount(1), 1);
    }

    private static void waits() {
        RateLimiter x = Checks.loaded("node a rate 1 ceiling 3 burst 99 credit 0;");
        CHECKS.due("waitTime(0, 99)", x.waitTime(0, 99), 0);
        x.acquire(0, 99);
        CHECKS.due("waitTime(0, 1)", x.waitTime(0, 1), 1);
        CHECKS.due("waitTime(0, 99)", x.waitTime(0, 99), 99);
        x.setRate(0, 10);
        CHECKS.due("waitTime(0, 10), rate 10", x.waitTime(0, 10), 4);
        CHECKS.due("waitTime(0, 9), ceiling 3", x.waitTime(0, 9), 3);
        x.setCeiling(0, 999);
        CHECKS.due("waitTime(0, 91)", x.waitTime(0, 91), 10);
        CHECKS.due("waitTime(0, 90)", x.waitTime(0, 90), 9);
        x.setCeiling(0, 0);
        CHECKS.due("waitTime(0, 1), ceiling 0", x.waitTime(0, 1), NONE);
        x.setCeiling(0, 9);
        x.setRate(0, 0);
        CHECKS.due("waitTime(0, 1), rate 0", x.waitTime(0, 1), NONE);
        RateLimiter y = Checks.loaded("node a rate 9 burst 20 ceiling 9 credit 99;");
        CHECKS.due("waitTime(0, 20)", y.waitTime(0, 20), 0);
        CHECKS.due("waitTime(0, 21) above the burst", y.waitTime(0, 21), NONE);
        RateLimiter z = Checks.loaded("node a rate 9 burst 40 ceiling 99 credit 30;");
        z.advance(3);
        z.acquire(0, 33);
        // Tokens 7, credit 27 and headroom 7; the headroom is full after a tick.
        CHECKS.due("waitTime(0, 7)", z.waitTime(0, 7), 0);
        CHECKS.due("waitTime(0, 34), paid by credit", z.waitTime(0, 34), 1);
        z.setRate(0, 2);
        CHECKS.due("waitTime(0, 35)", z.waitTime(0, 35), 1);
        CHECKS.due("waitTime(0, 36)", z.waitTime(0, 36), 1);
        CHECKS.due("waitTime(0, 37)", z.waitTime(0, 37), 2);
        CHECKS.due("waitTime(0, 40)", z.waitTime(0, 40), 3);
        z.setRate(0, 0);
        CHECKS.due("waitTime(0, 34), rate 0", z.waitTime(0, 34), 1);
        CHECKS.due("waitTime(0, 35), rate 0", z.waitTime(0, 35), NONE);
        z.setCeiling(0, 0);
        CHECKS.due("waitTime(0, 7), ceiling 0", z.waitTime(0, 7), 0);
        CHECKS.due("waitTime(0, 8), ceiling 0", z.waitTime(0, 8), NONE);
        CHECKS.due("waitTime(0, 99)", z.waitTime(0, 99), NONE);
        // A lender with few tokens, but a credit that can hold what the burst can't.
        RateLimiter w = Checks.loaded("node a rate 5 burst 10 ceiling 99 credit 99;node b in a burst 99 ceiling 99;");
        CHECKS.due("waitTime(1, 11), headroom of the root", w.waitTime(1, 11), NONE);
        RateLimiter v = Checks.loaded("node a burst 99 ceiling 99 rate 0;"
                + "node b in a rate 5 burst 50 ceiling 99 credit 40 alone;node c in b rate 0 burst 60 ceiling 99;");
        CHECKS.due("waitTime(2, 50)", v.waitTime(2, 50), 0);
        v.acquire(2, 50);
        CHECKS.due("waitTime(2, 50)", v.waitTime(2, 50), 10);
    }

    private static void waitLooksAtNeitherQueuesNorChanges() {
        RateLimiter x = Checks.loaded("node a rate 5 burst 20;at 1 a rate 0;at 2 a ceiling 0;");
        x.acquire(0, 20);
        x.enqueue(0, 5);
        CHECKS.due("waitTime(0, 20)", x.waitTime(0, 20), 4);
        for (int i = 0; i < 9; i++) {
            x.advance(500);
        }
        x.setRate(0, 1);
        x.setCeiling(0, 1);
        x.advance(500);
        x.clearQueue(0);
        x.acquire(0, 20);
        CHECKS.due("time()", x.time(), 5000);
        CHECKS.due("waitTime(0, 20) at the greatest time", x.waitTime(0, 20), 20);
        CHECKS.due("tokens(0)", x.tokens(0), 0);
    }

    private static void waitForLenderAbove() {
        String tree = "node a rate 4 ceiling 99 burst 99;node b in a rate 1 ceiling 99 burst 99";
        RateLimiter x = Checks.loaded(tree + ";");
        x.acquire(1, 99);
        CHECKS.due("waitTime(1, 9)", x.waitTime(1, 9), 3);
        CHECKS.due("waitTime(1, 99)", x.waitTime(1, 99), 25);
        x.setRate(0, 0);
        CHECKS.due("waitTime(1, 9)", x.waitTime(1, 9), 9);
        RateLimiter y = Checks.loaded(tree + " alone;");
        y.acquire(1, 99);
        CHECKS.due("waitTime(1, 9), alone", y.waitTime(1, 9), 9);
        RateLimiter z = Checks.loaded("node a rate 30 ceiling 2 burst 99;node b in a rate 30 ceiling 99 burst 99;");
        z.acquire(1, 99);
        CHECKS.due("waitTime(1, 9), headroom above", z.waitTime(1, 9), 5);
    }

    private static void repeatsInThought() {
        RateLimiter x = Checks.loaded("node a burst 999;node b in a burst 999;");
        CHECKS.due("repeats(1, 1)", x.repeats(1, 1), 999);
        CHECKS.due("repeats(1, 99)", x.repeats(1, 99), 10);
        CHECKS.due("tokens(1)", x.tokens(1), 999);
        CHECKS.due("headroom(0)", x.headroom(0), 999);
        CHECKS.due("logCount()", x.logCount(), 0);
        // A leaf with 10 tokens, a root with 25: each request of the leaf takes from the root too.
        RateLimiter y = Checks.loaded("node a rate 0 ceiling 99 burst 25;node b in a rate 0 ceiling 99 burst 10;"
                + "node c in a burst 99;");
        CHECKS.due("repeats(1, 3)", y.repeats(1, 3), 3);
        CHECKS.due("repeats(1, 11)", y.repeats(1, 11), 0);
        y.acquire(1, 8);
        y.advance(1);
        // Tokens now: root 17, leaf 2; headroom 25 and 10. The leaf pays 2 once, the root then 2 four times more.
        CHECKS.due("repeats(1, 2)", y.repeats(1, 2), 5);
        CHECKS.due("repeats(2, 8)", y.repeats(2, 8), 3);
        CHECKS.due("tokens(0)", y.tokens(0), 17);
        RateLimiter z = Checks.loaded("node a rate 0 ceiling 99 burst 20;node b in a rate 0 ceiling 99 burst 20;");
        z.acquire(1, 15);
        z.advance(1);
        CHECKS.due("repeats(1, 4)", z.repeats(1, 4), 1);
        CHECKS.due("repeats(1, 2)", z.repeats(1, 2), 2);
    }

    private static void refusals() {
        RateLimiter x = Checks.loaded("node a rate 0 ceiling 5 burst 20;");
        CHECKS.due("refusal(0, 20)", x.refusal(0, 20), 0);
        CHECKS.due("refusal(0, 21)", x.refusal(0, 21), 1);
        x.acquire(0, 20);
        CHECKS.due("refusal(0, 1)", x.refusal(0, 1), 1);
        x.advance(1);
        CHECKS.due("refusal(0, 5)", x.refusal(0, 5), 2);
        CHECKS.due("refusal(0, 6)", x.refusal(0, 6), 1);
    }

    private static void blocking() {
        RateLimiter x = Checks.loaded("node a burst 10;node b in a burst 30;node c in b burst 20;node d in c burst 40;");
        CHECKS.due("blockingNode(3, 10)", x.blockingNode(3, 10), NONE);
        CHECKS.due("blockingNode(3, 11)", x.blockingNode(3, 11), 0);
        CHECKS.due("blockingNode(3, 21)", x.blockingNode(3, 21), 2);
        CHECKS.due("blockingNode(3, 31)", x.blockingNode(3, 31), 2);
        CHECKS.due("blockingNode(3, 41)", x.blockingNode(3, 41), 3);
    }

    /** A chain of all nodes: the longest path, with the last of all numbers for its leaf. */
    private static void twelveNodes() {
        StringBuilder text = new StringBuilder("node a rate 50 ceiling 99 burst 99;");
        for (int i = 1; i < 12; i++) {
            text.append("node ").append((char) ('a' + i)).append(" in ").append((char) ('a' + i - 1));
            text.append(" rate 0 ceiling 99 burst 99;");
        }
        RateLimiter x = Checks.loaded(text.toString());
        CHECKS.due("acquire(11, 99)", x.acquire(11, 99), 0);
        for (int node = 0; node < 12; node++) {
            CHECKS.due("tokens(" + node + ")", x.tokens(node), 0);
            CHECKS.due("headroom(" + node + ")", x.headroom(node), 0);
        }
        CHECKS.due("blockingNode(11, 1)", x.blockingNode(11, 1), 11);
        CHECKS.due("waitTime(11, 50)", x.waitTime(11, 50), 1);
        CHECKS.due("waitTime(11, 51)", x.waitTime(11, 51), 2);
        x.enqueue(11, 40);
        CHECKS.due("advance(1)", x.advance(1), 1);
        CHECKS.due("lentCost(0)", x.lentCost(0), 40);
        CHECKS.due("borrowedCost(11)", x.borrowedCost(11), 40);
        CHECKS.due("lender(11, 10)", x.lender(11, 10), 0);
        CHECKS.due("repeats(11, 2)", x.repeats(11, 2), 5);
        CHECKS.due("acquire(11, 10)", x.acquire(11, 10), 11);
        CHECKS.due("mostServed()", x.mostServed(), 11);
        CHECKS.due("fairShare(11)", x.fairShare(11), 149);
        CHECKS.due("fairness()", x.fairness(), 1000);
        x.setRate(11, 3);
        CHECKS.due("isOversubscribed(10)", x.isOversubscribed(10), true);
        CHECKS.due("isOversubscribed(11)", x.isOversubscribed(11), false);
        CHECKS.due("drainTime(11)", x.drainTime(11), 0);
        CHECKS.due("nextLeaf()", x.nextLeaf(), NONE);
        RateLimiter y = Checks.loaded(text.toString().replace("ceiling 99 burst 99;node b", "burst 9;node b"));
        CHECKS.due("blockingNode(11, 10)", y.blockingNode(11, 10), 0);
        CHECKS.due("pathCeiling(11)", y.pathCeiling(11), 50);
    }
}
