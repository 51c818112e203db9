/** The edges that promises 43 to 57 of the document name: what was counted, and the log. */
final class EdgeCountTest {
    private static final Checks CHECKS = new Checks("EdgeCountTest");
    private static final int INVALID = RateLimiter.INVALID;
    private static final int NONE = RateLimiter.NONE;
    private static final int MAX = Integer.MAX_VALUE;
    private static final int[] BELOW_ONE = {0, -1, -2, -5000, Integer.MIN_VALUE};
    private static final String RICH = "node a rate 99 ceiling 999 burst 999;node b in a rate 99 ceiling 999 burst 999;"
            + "node c in a rate 99 ceiling 999 burst 999;";

    public static void main(String[] args) {
        CHECKS.test("promise 43: sentCost, no leaf", () -> Wrong.leaves(CHECKS, "sentCost", RateLimiter::sentCost));
        CHECKS.test("promise 43: 0 at first, then by acquire() and from the queue", EdgeCountTest::sentCosts);
        CHECKS.test("promise 44: sentCount, no leaf", () -> Wrong.leaves(CHECKS, "sentCount", RateLimiter::sentCount));
        CHECKS.test("promise 44: more than the log keeps", EdgeCountTest::sentCounts);
        CHECKS.test("promise 45: borrowedCost, no leaf", () -> Wrong.leaves(CHECKS, "borrowedCost", RateLimiter::borrowedCost));
        CHECKS.test("promise 45: 0 if the leaf paid, the whole cost if another paid", EdgeCountTest::borrowed);
        CHECKS.test("promise 46: lentCost, INVALID if there is no such node", () -> Wrong.nodes(CHECKS, "lentCost", RateLimiter::lentCost));
        CHECKS.test("promise 46: of the lender alone, a leaf lends nothing", EdgeCountTest::lent);
        CHECKS.test("promise 47: droppedCount, no leaf", () -> Wrong.leaves(CHECKS, "droppedCount", RateLimiter::droppedCount));
        CHECKS.test("promise 47: too old or the queue was full, not cleared or INVALID", EdgeCountTest::dropped);
        CHECKS.test("promise 48: INVALID if there are no nodes", EdgeCountTest::fairnessWithoutNodes);
        CHECKS.test("promise 48: 1000 if all x are 0", EdgeCountTest::fairnessOfNothing);
        CHECKS.test("promise 48: x is 0 only by rounding nothing", EdgeCountTest::fairnessOfLeast);
        CHECKS.test("promise 48: one leaf of one, one of eleven, all of eleven", EdgeCountTest::fairnessEnds);
        CHECKS.test("promise 48: x and the index are rounded down", EdgeCountTest::fairnessRounds);
        CHECKS.test("promise 48: large sums", EdgeCountTest::fairnessOfMuch);
        CHECKS.test("promise 49: fairShare, no leaf", () -> Wrong.leaves(CHECKS, "fairShare", RateLimiter::fairShare));
        CHECKS.test("promise 49: 0 of nothing, all of one leaf", EdgeCountTest::fairShareEnds);
        CHECKS.test("promise 49: rounded down", EdgeCountTest::fairShareRounds);
        CHECKS.test("promise 49: the weights of leaves, not of other nodes", EdgeCountTest::fairShareOfLeaves);
        CHECKS.test("promise 50: NONE if there are no nodes", EdgeCountTest::mostServedWithoutNodes);
        CHECKS.test("promise 50: the least number if there are several", EdgeCountTest::mostServedOfEqual);
        CHECKS.test("promise 50: exact fractions", EdgeCountTest::mostServedExact);
        CHECKS.test("promise 51: INVALID if width is below 1", EdgeCountTest::busiestInvalid);
        CHECKS.test("promise 51: 0 of an empty log", EdgeCountTest::busiestOfNothing);
        CHECKS.test("promise 51: both ends of the ticks t to t + width - 1", EdgeCountTest::busiestEnds);
        CHECKS.test("promise 51: a width beyond all times", EdgeCountTest::busiestWidest);
        CHECKS.test("promise 51: requests in the log alone", EdgeCountTest::busiestOfLog);
        CHECKS.test("promise 52: logCount 0 to 24", EdgeCountTest::logCounts);
        CHECKS.test("promise 52: the latest 24, dispatched or by acquire()", EdgeCountTest::latest24);
        CHECKS.test("promise 53: INVALID if k is negative, NONE if there is none", () -> logEdges(RateLimiter::loggedLeaf, 0));
        CHECKS.test("promise 54: INVALID and NONE likewise", () -> logEdges(RateLimiter::loggedCost, 1));
        CHECKS.test("promise 55: INVALID and NONE likewise", () -> logEdges(RateLimiter::loggedLender, 2));
        CHECKS.test("promise 56: INVALID and NONE likewise", () -> logEdges(RateLimiter::loggedTime, 3));
        CHECKS.test("promise 56: the times 0 and 5000", EdgeCountTest::loggedTimes);
        CHECKS.test("promise 57: INVALID if ticks is below 1", EdgeCountTest::recentInvalid);
        CHECKS.test("promise 57: 0 of an empty log", EdgeCountTest::recentOfNothing);
        CHECKS.test("promise 57: a time greater than the present time minus ticks", EdgeCountTest::recentEnds);
        CHECKS.test("promise 57: more ticks than have passed", EdgeCountTest::recentMost);
        CHECKS.test("promises 43 to 57: asking changes nothing", EdgeCountTest::askingChangesNothing);
        CHECKS.finish();
    }

    /** A root with a burst of 999 above so many leaves, which have a burst of 99. */
    private static RateLimiter leaves(int leaves, String settings) {
        StringBuilder text = new StringBuilder("node a rate 99 ceiling 999 burst 999;");
        for (int i = 1; i <= leaves; i++) {
            text.append("node ").append((char) ('a' + i)).append(" in a burst 99").append(settings).append(';');
        }
        return Checks.loaded(text.toString());
    }

    private static void sentCosts() {
        RateLimiter x = Checks.loaded(RICH);
        CHECKS.due("sentCost(1)", x.sentCost(1), 0);
        x.acquire(1, 1);
        CHECKS.due("sentCost(1)", x.sentCost(1), 1);
        x.enqueue(1, 99);
        CHECKS.due("sentCost(1), one is queued", x.sentCost(1), 1);
        x.advance(1);
        CHECKS.due("sentCost(1)", x.sentCost(1), 100);
        CHECKS.due("sentCost(2)", x.sentCost(2), 0);
    }

    private static void sentCounts() {
        RateLimiter x = Checks.loaded(RICH);
        CHECKS.due("sentCount(1)", x.sentCount(1), 0);
        for (int i = 1; i <= 30; i++) {
            x.acquire(1, 1);
            CHECKS.due("sentCount(1)", x.sentCount(1), i);
        }
        CHECKS.due("sentCount(2)", x.sentCount(2), 0);
        CHECKS.due("acquire(1, 0)", x.acquire(1, 0), INVALID);
        CHECKS.due("sentCount(1)", x.sentCount(1), 30);
    }

    private static void borrowed() {
        RateLimiter x = Checks.loaded("node a burst 99 ceiling 99 rate 0;node b in a burst 9 ceiling 9 rate 0;");
        CHECKS.due("borrowedCost(1)", x.borrowedCost(1), 0);
        x.acquire(1, 8);
        CHECKS.due("borrowedCost(1), paid by itself", x.borrowedCost(1), 0);
        x.advance(1);
        x.acquire(1, 2);
        CHECKS.due("borrowedCost(1), though it had one token", x.borrowedCost(1), 2);
        x.enqueue(1, 7);
        x.advance(1);
        CHECKS.due("borrowedCost(1), from the queue", x.borrowedCost(1), 9);
        CHECKS.due("tokens(1)", x.tokens(1), 1);
        CHECKS.due("borrowedCost(0)", x.borrowedCost(0), INVALID);
    }

    private static void lent() {
        RateLimiter x = Checks.loaded("node a burst 99 ceiling 99 rate 0;node b in a burst 50 ceiling 99 rate 0;"
                + "node c in b burst 50 ceiling 99 rate 0;");
        x.acquire(2, 50);
        for (int node = 0; node < 3; node++) {
            CHECKS.due("lentCost(" + node + ")", x.lentCost(node), 0);
        }
        x.advance(1);
        x.acquire(2, 49);
        CHECKS.due("lentCost(0)", x.lentCost(0), 49);
        CHECKS.due("lentCost(1)", x.lentCost(1), 0);
        CHECKS.due("lentCost(2)", x.lentCost(2), 0);
        RateLimiter y = Checks.loaded("node a burst 9;");
        y.acquire(0, 9);
        CHECKS.due("lentCost(0) of the only node", y.lentCost(0), 0);
    }

    private static void dropped() {
        RateLimiter x = Checks.loaded("node a burst 1 rate 0;node b in a burst 1 rate 0;node c in a burst 1 rate 0;age 1;");
        for (int i = 0; i < 16; i++) {
            x.enqueue(1, 2);
        }
        CHECKS.due("droppedCount(1), full", x.droppedCount(1), 0);
        x.enqueue(1, 2);
        CHECKS.due("droppedCount(1), one too many", x.droppedCount(1), 1);
        x.enqueue(1, 100);
        CHECKS.due("droppedCount(1), INVALID", x.droppedCount(1), 1);
        x.advance(1);
        CHECKS.due("droppedCount(1), age 1", x.droppedCount(1), 1);
        x.advance(1);
        CHECKS.due("droppedCount(1), age 2", x.droppedCount(1), 17);
        x.enqueue(1, 2);
        x.clearQueue(1);
        CHECKS.due("droppedCount(1), cleared", x.droppedCount(1), 17);
        CHECKS.due("droppedCount(2)", x.droppedCount(2), 0);
    }

    private static void fairnessWithoutNodes() {
        CHECKS.due("of a new object", new RateLimiter().fairness(), INVALID);
        RateLimiter x = Checks.loaded("node a;");
        CHECKS.due("of one node", x.fairness(), 1000);
        Checks.load(x, "limit 5;");
        CHECKS.due("without nodes", x.fairness(), INVALID);
    }

    private static void fairnessOfNothing() {
        CHECKS.due("of two leaves", Checks.loaded(RICH).fairness(), 1000);
        CHECKS.due("of eleven leaves", Checks.loaded(Wrong.twelve()).fairness(), 1000);
    }

    /** The cost 1 times 10, divided by the weight 9, is 1. */
    private static void fairnessOfLeast() {
        RateLimiter x = leaves(2, " weight 9");
        x.acquire(2, 1);
        CHECKS.due("fairness()", x.fairness(), 500);
        x.acquire(1, 1);
        CHECKS.due("fairness()", x.fairness(), 1000);
    }

    private static void fairnessEnds() {
        RateLimiter x = leaves(0, "");
        x.acquire(0, 99);
        CHECKS.due("one of one", x.fairness(), 1000);
        RateLimiter y = leaves(11, "");
        y.acquire(11, 1);
        CHECKS.due("one of eleven", y.fairness(), 90);
        for (int leaf = 1; leaf < 11; leaf++) {
            y.acquire(leaf, 1);
        }
        CHECKS.due("all of eleven", y.fairness(), 1000);
        y.acquire(5, 1);
        // Ten x of 10 and one of 20: 1000 * 120 * 120 / (11 * 1400) = 935.06..
        CHECKS.due("one more of eleven", y.fairness(), 935);
    }

    private static void fairnessRounds() {
        RateLimiter x = leaves(2, "");
        x.setWeight(1, 7);
        x.setWeight(2, 9);
        x.acquire(1, 2);
        x.acquire(2, 5);
        // 20/7 and 50/9 are 2 and 5: 1000 * 49 / (2 * 29) = 844.8.. ; unrounded they would make 901.
        CHECKS.due("fairness()", x.fairness(), 844);
        x.setWeight(2, 8);
        // 2 and 50/8 = 6: 1000 * 64 / (2 * 40) = 800, exactly.
        CHECKS.due("fairness()", x.fairness(), 800);
    }

    private static void fairnessOfMuch() {
        RateLimiter x = Checks.loaded("node a rate 99 ceiling 999 burst 999;node b in a rate 99 ceiling 999 burst 999;");
        for (int i = 0; i < 460; i++) {
            x.acquire(1, 99);
            if (i % 20 == 19) {
                x.advance(20);
            }
        }
        int sent = x.sentCost(1);
        CHECKS.due("much was sent", sent > 20000, true);
        CHECKS.due("fairness()", x.fairness(), 1000);
        CHECKS.due("fairShare(1)", x.fairShare(1), sent);
    }

    private static void fairShareEnds() {
        RateLimiter x = leaves(2, " weight 9");
        CHECKS.due("of nothing", x.fairShare(1), 0);
        x.acquire(1, 99);
        CHECKS.due("of what another sent", x.fairShare(2), 49);
        RateLimiter y = leaves(0, "");
        y.acquire(0, 7);
        CHECKS.due("of the only leaf", y.fairShare(0), 7);
        y.setWeight(0, 9);
        CHECKS.due("of the only leaf, weight 9", y.fairShare(0), 7);
    }

    private static void fairShareRounds() {
        RateLimiter x = leaves(11, "");
        x.acquire(3, 10);
        CHECKS.due("10 of 11", x.fairShare(11), 0);
        x.acquire(3, 1);
        CHECKS.due("11 of 11", x.fairShare(11), 1);
        x.acquire(3, 10);
        CHECKS.due("21 of 11", x.fairShare(11), 1);
        x.setWeight(11, 9);
        // 21 * 9 / 19 = 9.9..
        CHECKS.due("9 shares of 19", x.fairShare(11), 9);
        CHECKS.due("1 share of 19", x.fairShare(1), 1);
    }

    private static void fairShareOfLeaves() {
        RateLimiter x = Checks.loaded("node a burst 99 weight 9;node b in a burst 99 weight 9;node c in b burst 99 weight 2;"
                + "node d in a burst 99 weight 3;");
        x.acquire(2, 10);
        CHECKS.due("fairShare(2)", x.fairShare(2), 4);
        CHECKS.due("fairShare(3)", x.fairShare(3), 6);
    }

    private static void mostServedWithoutNodes() {
        CHECKS.due("of a new object", new RateLimiter().mostServed(), NONE);
        CHECKS.due("without nodes", Checks.loaded("age 5;").mostServed(), NONE);
        CHECKS.due("of one node", Checks.loaded("node a;").mostServed(), 0);
    }

    private static void mostServedOfEqual() {
        RateLimiter x = leaves(11, "");
        CHECKS.due("nothing was sent", x.mostServed(), 1);
        x.acquire(11, 1);
        CHECKS.due("one of eleven", x.mostServed(), 11);
        x.acquire(7, 1);
        CHECKS.due("two", x.mostServed(), 7);
        x.setWeight(9, 3);
        x.acquire(9, 3);
        CHECKS.due("3/3 of a greater number", x.mostServed(), 7);
        x.setWeight(2, 4);
        x.acquire(2, 4);
        CHECKS.due("4/4 of a lesser number", x.mostServed(), 2);
        RateLimiter y = Checks.loaded("node a;node b in a;node c in b;node d in a;");
        CHECKS.due("the first leaf", y.mostServed(), 2);
    }

    private static void mostServedExact() {
        RateLimiter x = leaves(2, "");
        x.setWeight(1, 9);
        x.setWeight(2, 8);
        x.acquire(1, 98);
        x.acquire(2, 87);
        CHECKS.due("98/9 and 87/8", x.mostServed(), 1);
        x.acquire(2, 1);
        CHECKS.due("98/9 and 88/8", x.mostServed(), 2);
        x.acquire(1, 1);
        CHECKS.due("99/9 and 88/8", x.mostServed(), 1);
    }

    private static void busiestInvalid() {
        for (RateLimiter x : new RateLimiter[] {new RateLimiter(), Checks.loaded(RICH), sentNow()}) {
            for (int width : BELOW_ONE) {
                CHECKS.due("busiestCost(" + width + ")", x.busiestCost(width), INVALID);
            }
        }
    }

    private static RateLimiter sentNow() {
        RateLimiter x = Checks.loaded(RICH);
        x.acquire(1, 7);
        return x;
    }

    private static void busiestOfNothing() {
        for (RateLimiter x : new RateLimiter[] {new RateLimiter(), Checks.loaded(RICH)}) {
            CHECKS.due("busiestCost(1)", x.busiestCost(1), 0);
            CHECKS.due("busiestCost(MAX)", x.busiestCost(MAX), 0);
        }
        CHECKS.due("busiestCost(1) of one request", sentNow().busiestCost(1), 7);
        CHECKS.due("busiestCost(MAX) of one request", sentNow().busiestCost(MAX), 7);
    }

    private static void busiestEnds() {
        RateLimiter x = Checks.loaded(RICH);
        x.acquire(1, 4);
        x.advance(5);
        x.acquire(2, 8);
        CHECKS.due("busiestCost(1)", x.busiestCost(1), 8);
        CHECKS.due("busiestCost(5)", x.busiestCost(5), 8);
        CHECKS.due("busiestCost(6)", x.busiestCost(6), 12);
        x.advance(1);
        x.acquire(1, 16);
        CHECKS.due("busiestCost(1)", x.busiestCost(1), 16);
        CHECKS.due("busiestCost(2)", x.busiestCost(2), 24);
        CHECKS.due("busiestCost(6)", x.busiestCost(6), 24);
        CHECKS.due("busiestCost(7)", x.busiestCost(7), 28);
        x.advance(100);
        CHECKS.due("busiestCost(7), long ago", x.busiestCost(7), 28);
        RateLimiter y = Checks.loaded(RICH);
        y.acquire(1, 9);
        y.acquire(2, 9);
        y.advance(1);
        y.acquire(1, 1);
        y.advance(1);
        y.acquire(1, 12);
        CHECKS.due("busiestCost(1), the earliest tick", y.busiestCost(1), 18);
        CHECKS.due("busiestCost(2)", y.busiestCost(2), 19);
        CHECKS.due("busiestCost(3)", y.busiestCost(3), 31);
    }

    private static void busiestWidest() {
        RateLimiter x = Checks.loaded(RICH);
        x.acquire(1, 4);
        for (int i = 0; i < 10; i++) {
            x.advance(500);
        }
        x.acquire(1, 8);
        CHECKS.due("busiestCost(5000)", x.busiestCost(5000), 8);
        CHECKS.due("busiestCost(5001)", x.busiestCost(5001), 12);
        CHECKS.due("busiestCost(MAX)", x.busiestCost(MAX), 12);
        CHECKS.due("busiestCost(MAX - 1)", x.busiestCost(MAX - 1), 12);
    }

    private static void busiestOfLog() {
        RateLimiter x = Checks.loaded(RICH);
        x.acquire(1, 50);
        for (int i = 0; i < 23; i++) {
            x.acquire(2, 1);
        }
        CHECKS.due("busiestCost(1), 24 requests", x.busiestCost(1), 73);
        x.acquire(2, 1);
        CHECKS.due("busiestCost(1), 25 requests", x.busiestCost(1), 24);
    }

    private static void logCounts() {
        RateLimiter x = Checks.loaded(RICH);
        for (int sent = 0; sent < 30; sent++) {
            CHECKS.due("logCount() of " + sent, x.logCount(), Math.min(sent, 24));
            x.acquire(1, 1);
        }
        CHECKS.due("logCount() of a new object", new RateLimiter().logCount(), 0);
        Checks.load(x, RICH);
        CHECKS.due("logCount() after a load", x.logCount(), 0);
    }

    private static void latest24() {
        RateLimiter x = Checks.loaded(RICH + "limit 16;");
        for (int i = 0; i < 16; i++) {
            x.enqueue(1, 1 + i);
        }
        x.advance(1);
        for (int i = 0; i < 9; i++) {
            x.acquire(2, 17 + i);
        }
        CHECKS.due("logCount()", x.logCount(), 24);
        for (int k = 0; k < 24; k++) {
            CHECKS.due("loggedCost(" + k + ")", x.loggedCost(k), 25 - k);
            CHECKS.due("loggedLeaf(" + k + ")", x.loggedLeaf(k), k < 9 ? 2 : 1);
        }
        CHECKS.due("loggedCost(24)", x.loggedCost(24), NONE);
        CHECKS.due("recentCost(1)", x.recentCost(1), 25 * 26 / 2 - 1);
        for (int i = 0; i < 60; i++) {
            x.acquire(1, 30 + i % 7);
        }
        CHECKS.due("acquire(1, 99)", x.acquire(1, 99), NONE);
        CHECKS.due("logCount()", x.logCount(), 24);
    }

    /** What: 0 for the leaf, 1 for the cost, 2 for the lender, 3 for the time. */
    private static void logEdges(Wrong.Ask ask, int what) {
        for (int k : new int[] {-1, -2, -24, Integer.MIN_VALUE}) {
            CHECKS.due("k = " + k + " of a new object", ask.of(new RateLimiter(), k), INVALID);
        }
        RateLimiter x = Checks.loaded("node a rate 99 ceiling 999 burst 999;node b in a rate 0 ceiling 99 burst 5;"
                + "node c in a rate 99 ceiling 99 burst 99;");
        for (int sent = 0; sent <= 30; sent++) {
            CHECKS.due("k = -1 of " + sent, ask.of(x, -1), INVALID);
            CHECKS.due("k = MIN of " + sent, ask.of(x, Integer.MIN_VALUE), INVALID);
            CHECKS.due("k = MAX of " + sent, ask.of(x, MAX), NONE);
            CHECKS.due("k = 24 of " + sent, ask.of(x, 24), NONE);
            int kept = Math.min(24, sent);
            CHECKS.due("k = count of " + sent, ask.of(x, kept), NONE);
            for (int k = 0; k < kept; k += Math.max(1, kept - 1)) {
                CHECKS.due("k = " + k + " of " + sent, ask.of(x, k), logged(sent - 1 - k, what));
            }
            x.acquire(sent % 2 == 0 ? 1 : 2, sent < 2 ? 5 : 1 + sent % 5);
            x.advance(1);
        }
    }

    /** Leaf 1 spends its five tokens at once, so the root pays for it afterwards; leaf 2 pays by itself. */
    private static int logged(int sent, int what) {
        int leaf = sent % 2 == 0 ? 1 : 2;
        int[] due = {leaf, sent < 2 ? 5 : 1 + sent % 5, sent % 2 == 1 ? 2 : sent == 0 ? 1 : 0, sent};
        return due[what];
    }

    private static void loggedTimes() {
        RateLimiter x = Checks.loaded("node a burst 9;");
        x.acquire(0, 1);
        for (int i = 0; i < 10; i++) {
            x.advance(500);
        }
        x.acquire(0, 1);
        CHECKS.due("loggedTime(0)", x.loggedTime(0), 5000);
        CHECKS.due("loggedTime(1)", x.loggedTime(1), 0);
        CHECKS.due("loggedTime(2)", x.loggedTime(2), NONE);
        RateLimiter y = Checks.loaded("node a burst 9;");
        y.enqueue(0, 1);
        y.advance(1);
        CHECKS.due("loggedTime(0) of a dispatched request", y.loggedTime(0), 1);
    }

    private static void recentInvalid() {
        for (RateLimiter x : new RateLimiter[] {new RateLimiter(), Checks.loaded(RICH), sentNow()}) {
            for (int ticks : BELOW_ONE) {
                CHECKS.due("recentCost(" + ticks + ")", x.recentCost(ticks), INVALID);
            }
        }
    }

    private static void recentOfNothing() {
        for (RateLimiter x : new RateLimiter[] {new RateLimiter(), Checks.loaded(RICH)}) {
            CHECKS.due("recentCost(1)", x.recentCost(1), 0);
            CHECKS.due("recentCost(MAX)", x.recentCost(MAX), 0);
        }
        CHECKS.due("recentCost(1) of one request", sentNow().recentCost(1), 7);
        CHECKS.due("recentCost(MAX) of one request", sentNow().recentCost(MAX), 7);
    }

    private static void recentEnds() {
        RateLimiter x = Checks.loaded(RICH);
        x.acquire(1, 4);
        x.advance(5);
        CHECKS.due("recentCost(1)", x.recentCost(1), 0);
        CHECKS.due("recentCost(5), at the present time minus ticks", x.recentCost(5), 0);
        CHECKS.due("recentCost(6), one later", x.recentCost(6), 4);
        x.acquire(2, 8);
        CHECKS.due("recentCost(1)", x.recentCost(1), 8);
        CHECKS.due("recentCost(5)", x.recentCost(5), 8);
        CHECKS.due("recentCost(6)", x.recentCost(6), 12);
    }

    private static void recentMost() {
        RateLimiter x = Checks.loaded(RICH);
        x.acquire(1, 4);
        CHECKS.due("recentCost(2) at 0", x.recentCost(2), 4);
        CHECKS.due("recentCost(MAX) at 0", x.recentCost(MAX), 4);
        for (int i = 0; i < 10; i++) {
            x.advance(500);
        }
        CHECKS.due("recentCost(5000) at 5000", x.recentCost(5000), 0);
        CHECKS.due("recentCost(5001) at 5000", x.recentCost(5001), 4);
        CHECKS.due("recentCost(MAX) at 5000", x.recentCost(MAX), 4);
    }

    private static void askingChangesNothing() {
        Twins.unchanged(CHECKS, "what was counted", x -> {
            for (int number = -1; number < 4; number++) {
                x.sentCost(number);
                x.sentCount(number);
                x.borrowedCost(number);
                x.lentCost(number);
                x.droppedCount(number);
                x.fairShare(number);
                x.busiestCost(number);
                x.recentCost(number);
                x.loggedLeaf(number);
                x.loggedCost(number);
                x.loggedLender(number);
                x.loggedTime(number);
            }
            x.fairness();
            x.mostServed();
            x.logCount();
        });
    }
}
