/** Promises 43 to 57: what was counted, and the log. */
final class CountTest {
    private static final Checks CHECKS = new Checks("CountTest");
    private static final int INVALID = RateLimiter.INVALID;
    private static final int NONE = RateLimiter.NONE;

    public static void main(String[] args) {
        wrongArguments();
        sentAndBorrowed();
        dropped();
        fairnessIndex();
        fairShares();
        mostServedLeaf();
        emptyLog();
        fullLog();
        sumsOfTheLog();
        CHECKS.finish();
    }

    private static void wrongArguments() {
        RateLimiter[] limiters = {new RateLimiter(), Checks.loaded("node a;node b in a;")};
        for (RateLimiter x : limiters) {
            for (int leaf : new int[] {-1, 0, x.nodeCount(), 12, Integer.MIN_VALUE, Integer.MAX_VALUE}) {
                CHECKS.due("sentCost", x.sentCost(leaf), INVALID);
                CHECKS.due("sentCount", x.sentCount(leaf), INVALID);
                CHECKS.due("borrowedCost", x.borrowedCost(leaf), INVALID);
                CHECKS.due("droppedCount", x.droppedCount(leaf), INVALID);
                CHECKS.due("fairShare", x.fairShare(leaf), INVALID);
            }
            for (int node : new int[] {-1, x.nodeCount(), 12, Integer.MIN_VALUE, Integer.MAX_VALUE}) {
                CHECKS.due("lentCost", x.lentCost(node), INVALID);
            }
            for (int width : new int[] {0, -1, Integer.MIN_VALUE}) {
                CHECKS.due("busiestCost", x.busiestCost(width), INVALID);
                CHECKS.due("recentCost", x.recentCost(width), INVALID);
            }
        }
        CHECKS.due("lentCost(0)", limiters[1].lentCost(0), 0);
        CHECKS.due("lentCost(1)", limiters[1].lentCost(1), 0);
        CHECKS.due("fairness() without nodes", limiters[0].fairness(), INVALID);
        CHECKS.due("mostServed() without nodes", limiters[0].mostServed(), NONE);
    }

    private static void sentAndBorrowed() {
        RateLimiter x = Checks.loaded("node a rate 9 ceiling 99 burst 99;node b in a rate 0 ceiling 9 burst 9;"
                + "node c in a rate 0 ceiling 9 burst 9;");
        x.acquire(1, 9);
        x.enqueue(1, 4);
        x.enqueue(1, 3);
        x.enqueue(2, 9);
        x.advance(1);
        CHECKS.due("sentCost(1)", x.sentCost(1), 16);
        CHECKS.due("sentCount(1)", x.sentCount(1), 3);
        CHECKS.due("borrowedCost(1)", x.borrowedCost(1), 7);
        CHECKS.due("lentCost(0)", x.lentCost(0), 7);
        CHECKS.due("lentCost(1)", x.lentCost(1), 0);
        CHECKS.due("sentCost(2)", x.sentCost(2), 9);
        CHECKS.due("sentCount(2)", x.sentCount(2), 1);
        CHECKS.due("borrowedCost(2)", x.borrowedCost(2), 0);
        x.advance(1);
        CHECKS.due("acquire(2, 5)", x.acquire(2, 5), 1);
        CHECKS.due("borrowedCost(2)", x.borrowedCost(2), 5);
        CHECKS.due("borrowedCost(1)", x.borrowedCost(1), 7);
        CHECKS.due("lentCost(0)", x.lentCost(0), 12);
    }

    private static void dropped() {
        RateLimiter x = Checks.loaded("node a rate 0 burst 1;age 2;");
        for (int i = 0; i < 20; i++) {
            x.enqueue(0, 2);
        }
        CHECKS.due("droppedCount(0), full", x.droppedCount(0), 4);
        x.advance(3);
        CHECKS.due("droppedCount(0), too old", x.droppedCount(0), 20);
        x.enqueue(0, 2);
        x.clearQueue(0);
        CHECKS.due("droppedCount(0), cleared", x.droppedCount(0), 20);
    }

    private static void fairnessIndex() {
        RateLimiter x = Checks.loaded("node a burst 999;node b in a burst 99 weight 3;node c in a burst 99;"
                + "node d in a burst 99 weight 7;");
        CHECKS.due("fairness(), nothing sent", x.fairness(), 1000);
        x.acquire(1, 20);
        CHECKS.due("fairness(), one of three", x.fairness(), 333);
        x.acquire(2, 7);
        x.acquire(3, 50);
        // x: 200/3 = 66, 70, 500/7 = 71; sum 207, squares 4356 + 4900 + 5041 = 14297.
        CHECKS.due("fairness()", x.fairness(), 1000L * 207 * 207 / (3 * 14297));
        x.acquire(3, 45);
        // x: 66, 70, 950/7 = 135; sum 271, squares 4356 + 4900 + 18225 = 27481.
        CHECKS.due("fairness()", x.fairness(), 1000L * 271 * 271 / (3 * 27481));
        x.setWeight(3, 1);
        // x: 66, 70, 950; sum 1086, squares 4356 + 4900 + 902500 = 911756.
        CHECKS.due("fairness()", x.fairness(), 1000L * 1086 * 1086 / (3 * 911756));
        RateLimiter y = Checks.loaded("node a burst 99;");
        y.acquire(0, 9);
        CHECKS.due("fairness() of one leaf", y.fairness(), 1000);
        RateLimiter z = Checks.loaded("node a burst 999 rate 99;");
        for (int i = 0; i < 480; i++) {
            z.acquire(0, 99);
            z.advance(1);
        }
        CHECKS.due("fairness() of large sums", z.fairness(), 1000);
        CHECKS.due("fairShare(0) of large sums", z.fairShare(0), z.sentCost(0));
        CHECKS.due("sentCost(0)", z.sentCost(0), 480 * 99);
    }

    private static void fairShares() {
        RateLimiter x = Checks.loaded("node a burst 999 weight 9;node b in a burst 99 weight 3;"
                + "node c in a burst 99 weight 4;");
        CHECKS.due("fairShare(1), nothing sent", x.fairShare(1), 0);
        x.acquire(1, 20);
        CHECKS.due("fairShare(1)", x.fairShare(1), 8);
        CHECKS.due("fairShare(2)", x.fairShare(2), 11);
        x.acquire(2, 1);
        CHECKS.due("fairShare(1)", x.fairShare(1), 9);
        CHECKS.due("fairShare(2)", x.fairShare(2), 12);
        x.setWeight(2, 9);
        CHECKS.due("fairShare(1)", x.fairShare(1), 5);
        CHECKS.due("fairShare(2)", x.fairShare(2), 15);
    }

    private static void mostServedLeaf() {
        RateLimiter x = Checks.loaded("node a burst 999;node b in a burst 99 weight 3;node c in a burst 99 weight 2;"
                + "node d in a burst 99;");
        CHECKS.due("mostServed(), nothing sent", x.mostServed(), 1);
        x.acquire(1, 10);
        CHECKS.due("mostServed()", x.mostServed(), 1);
        x.acquire(2, 7);
        CHECKS.due("mostServed(), 10/3 and 7/2", x.mostServed(), 2);
        x.acquire(1, 2);
        x.acquire(2, 1);
        CHECKS.due("mostServed(), equal", x.mostServed(), 1);
        x.acquire(3, 4);
        CHECKS.due("mostServed(), equal", x.mostServed(), 1);
        x.acquire(3, 1);
        CHECKS.due("mostServed()", x.mostServed(), 3);
        x.setWeight(1, 1);
        CHECKS.due("mostServed() after setWeight", x.mostServed(), 1);
        CHECKS.due("mostServed() of one leaf", Checks.loaded("node a;").mostServed(), 0);
    }

    private static void emptyLog() {
        RateLimiter[] limiters = {new RateLimiter(), Checks.loaded("node a;node b in a;")};
        for (RateLimiter x : limiters) {
            CHECKS.due("logCount()", x.logCount(), 0);
            for (int k : new int[] {0, 1, 23, 24, Integer.MAX_VALUE}) {
                logged(x, k, NONE, NONE, NONE, NONE);
            }
            for (int k : new int[] {-1, Integer.MIN_VALUE}) {
                logged(x, k, INVALID, INVALID, INVALID, INVALID);
            }
            CHECKS.due("busiestCost(1)", x.busiestCost(1), 0);
            CHECKS.due("busiestCost(MAX)", x.busiestCost(Integer.MAX_VALUE), 0);
            CHECKS.due("recentCost(1)", x.recentCost(1), 0);
            CHECKS.due("recentCost(MAX)", x.recentCost(Integer.MAX_VALUE), 0);
        }
    }

    private static void logged(RateLimiter x, int k, int leaf, int cost, int lender, int time) {
        CHECKS.due("loggedLeaf(" + k + ")", x.loggedLeaf(k), leaf);
        CHECKS.due("loggedCost(" + k + ")", x.loggedCost(k), cost);
        CHECKS.due("loggedLender(" + k + ")", x.loggedLender(k), lender);
        CHECKS.due("loggedTime(" + k + ")", x.loggedTime(k), time);
    }

    private static void fullLog() {
        RateLimiter x = Checks.loaded("node a rate 99 burst 999;node b in a rate 0 ceiling 99 burst 99;"
                + "node c in a rate 99 burst 99;");
        x.acquire(1, 99);
        x.advance(1);
        for (int i = 1; i <= 40; i++) {
            int leaf = i % 3 == 0 ? 2 : 1;
            x.acquire(leaf, i);
            CHECKS.due("logCount()", x.logCount(), Math.min(24, i + 1));
            x.advance(1);
        }
        for (int k = 0; k < 24; k++) {
            int i = 40 - k;
            logged(x, k, i % 3 == 0 ? 2 : 1, i, i % 3 == 0 ? 2 : 0, i);
        }
        logged(x, 24, NONE, NONE, NONE, NONE);
        logged(x, -1, INVALID, INVALID, INVALID, INVALID);
        x.save(0);
        x.acquire(2, 5);
        logged(x, 0, 2, 5, 2, 41);
        x.restore(0);
        CHECKS.due("recentCost(MAX)", x.recentCost(Integer.MAX_VALUE), 24 * (17 + 40) / 2);
        CHECKS.due("busiestCost(MAX)", x.busiestCost(Integer.MAX_VALUE), 24 * (17 + 40) / 2);
        CHECKS.due("sentCount(1)", x.sentCount(1), 28);
    }

    private static void sumsOfTheLog() {
        RateLimiter x = Checks.loaded("node a rate 99 burst 999;");
        int[][] sent = {{0, 5}, {0, 6}, {2, 7}, {3, 20}, {7, 21}, {7, 1}, {9, 3}};
        for (int[] request : sent) {
            if (request[0] > x.time()) {
                x.advance(request[0] - x.time());
            }
            x.acquire(0, request[1]);
        }
        int[] busiest = {22, 27, 27, 38, 42, 49, 49, 60, 60, 63, 63};
        for (int width = 1; width <= busiest.length; width++) {
            CHECKS.due("busiestCost(" + width + ")", x.busiestCost(width), busiest[width - 1]);
        }
        CHECKS.due("busiestCost(MAX)", x.busiestCost(Integer.MAX_VALUE), 63);
        int[] recent = {3, 3, 25, 25, 25, 25, 45, 52, 52, 63, 63};
        for (int ticks = 1; ticks <= recent.length; ticks++) {
            CHECKS.due("recentCost(" + ticks + ")", x.recentCost(ticks), recent[ticks - 1]);
        }
        CHECKS.due("recentCost(MAX)", x.recentCost(Integer.MAX_VALUE), 63);
        x.advance(1);
        CHECKS.due("recentCost(1)", x.recentCost(1), 0);
        CHECKS.due("recentCost(2)", x.recentCost(2), 3);
        CHECKS.due("busiestCost(1)", x.busiestCost(1), 22);
    }
}
