/** Promises 34 to 42: the queues, dispatch, advance, forecast and drainTime. */
final class QueueTest {
    private static final Checks CHECKS = new Checks("QueueTest");
    private static final int INVALID = RateLimiter.INVALID;
    private static final int NONE = RateLimiter.NONE;

    public static void main(String[] args) {
        wrongArguments();
        queueAnswers();
        firstInFirstOut();
        advanceRange();
        advanceWithoutNodes();
        limits();
        leastDistanceFirst();
        priorityNext();
        quotientNext();
        numberLast();
        frontBlocksQueue();
        ages();
        ageZero();
        droppedBeforeDispatch();
        tokensBeforeDispatch();
        forecasts();
        forecastMakesTimedChanges();
        drainTimes();
        drainTimeAtTheEnd();
        CHECKS.finish();
    }

    private static void wrongArguments() {
        RateLimiter[] limiters = {new RateLimiter(), Checks.loaded("node a;node b in a;")};
        for (RateLimiter x : limiters) {
            for (int leaf : new int[] {-1, 0, x.nodeCount(), 12, Integer.MIN_VALUE, Integer.MAX_VALUE}) {
                CHECKS.due("queueLength", x.queueLength(leaf), INVALID);
                CHECKS.due("queuedCost", x.queuedCost(leaf), INVALID);
                CHECKS.due("requestAt", x.requestAt(leaf, 0), INVALID);
                CHECKS.due("costAt", x.costAt(leaf, 0), INVALID);
                CHECKS.due("ageAt", x.ageAt(leaf, 0), INVALID);
                CHECKS.due("forecast", x.forecast(leaf, 1), INVALID);
                CHECKS.due("drainTime", x.drainTime(leaf), INVALID);
            }
        }
        RateLimiter x = limiters[1];
        x.enqueue(1, 5);
        for (int place : new int[] {-1, Integer.MIN_VALUE}) {
            CHECKS.due("requestAt", x.requestAt(1, place), INVALID);
            CHECKS.due("costAt", x.costAt(1, place), INVALID);
            CHECKS.due("ageAt", x.ageAt(1, place), INVALID);
        }
        for (int place : new int[] {1, 16, 17, Integer.MAX_VALUE}) {
            CHECKS.due("requestAt", x.requestAt(1, place), NONE);
            CHECKS.due("costAt", x.costAt(1, place), NONE);
            CHECKS.due("ageAt", x.ageAt(1, place), NONE);
        }
    }

    private static void queueAnswers() {
        RateLimiter x = Checks.loaded("node a rate 0;node b in a rate 0;node c in a rate 0;");
        CHECKS.due("queueLength(1)", x.queueLength(1), 0);
        CHECKS.due("queuedCost(1)", x.queuedCost(1), 0);
        for (int i = 0; i < 16; i++) {
            x.enqueue(1, 60 + i);
            x.enqueue(2, 20 + i);
            x.advance(1);
        }
        CHECKS.due("queueLength(1)", x.queueLength(1), 16);
        CHECKS.due("queuedCost(1)", x.queuedCost(1), 16 * 60 + 120);
        CHECKS.due("queuedCost(2)", x.queuedCost(2), 16 * 20 + 120);
        for (int i = 0; i < 16; i++) {
            CHECKS.due("requestAt(1, i)", x.requestAt(1, i), 2 * i);
            CHECKS.due("requestAt(2, i)", x.requestAt(2, i), 2 * i + 1);
            CHECKS.due("costAt(1, i)", x.costAt(1, i), 60 + i);
            CHECKS.due("costAt(2, i)", x.costAt(2, i), 20 + i);
            CHECKS.due("ageAt(1, i)", x.ageAt(1, i), 16 - i);
        }
        CHECKS.due("requestAt(1, 16)", x.requestAt(1, 16), NONE);
        CHECKS.due("nextLeaf()", x.nextLeaf(), NONE);
        RateLimiter y = Checks.loaded("node a burst 999 ceiling 999 rate 99;limit 1;");
        for (int i = 0; i < 16; i++) {
            y.enqueue(0, 60 + i);
        }
        CHECKS.due("costAt(0, 0)", y.costAt(0, 0), 60);
        for (int sent = 1; sent <= 16; sent++) {
            CHECKS.due("advance(1)", y.advance(1), 1);
            for (int place = 0; place < 16; place++) {
                CHECKS.due("costAt(0, place)", y.costAt(0, place), place + sent < 16 ? 60 + place + sent : NONE);
                CHECKS.due("requestAt(0, place)", y.requestAt(0, place), place + sent < 16 ? place + sent : NONE);
                CHECKS.due("ageAt(0, place)", y.ageAt(0, place), place + sent < 16 ? sent : NONE);
            }
        }
    }

    private static void firstInFirstOut() {
        RateLimiter x = Checks.loaded("node a rate 9 burst 99;limit 2;");
        for (int cost = 1; cost <= 5; cost++) {
            x.enqueue(0, cost);
        }
        CHECKS.due("advance(1)", x.advance(1), 2);
        CHECKS.due("loggedCost(0)", x.loggedCost(0), 2);
        CHECKS.due("loggedCost(1)", x.loggedCost(1), 1);
        CHECKS.due("queueLength(0)", x.queueLength(0), 3);
        CHECKS.due("requestAt(0, 0)", x.requestAt(0, 0), 2);
        CHECKS.due("costAt(0, 2)", x.costAt(0, 2), 5);
        CHECKS.due("ageAt(0, 0)", x.ageAt(0, 0), 1);
        CHECKS.due("advance(2)", x.advance(2), 3);
        CHECKS.due("sentCount(0)", x.sentCount(0), 5);
        CHECKS.due("requestAt(0, 0)", x.requestAt(0, 0), NONE);
    }

    private static void advanceRange() {
        RateLimiter x = Checks.loaded("node a;");
        for (int ticks : new int[] {0, -1, 501, Integer.MAX_VALUE, Integer.MIN_VALUE}) {
            CHECKS.due("advance(" + ticks + ")", x.advance(ticks), INVALID);
            CHECKS.due("forecast(0, " + ticks + ")", x.forecast(0, ticks), INVALID);
        }
        CHECKS.due("time()", x.time(), 0);
        CHECKS.due("advance(1)", x.advance(1), 0);
        for (int i = 0; i < 9; i++) {
            CHECKS.due("advance(500)", x.advance(500), 0);
        }
        CHECKS.due("advance(500) beyond 5000", x.advance(500), INVALID);
        CHECKS.due("forecast(0, 500) beyond 5000", x.forecast(0, 500), INVALID);
        CHECKS.due("time()", x.time(), 4501);
        CHECKS.due("forecast(0, 499)", x.forecast(0, 499), 0);
        CHECKS.due("advance(499)", x.advance(499), 0);
        CHECKS.due("time()", x.time(), 5000);
        CHECKS.due("advance(1)", x.advance(1), INVALID);
        CHECKS.due("forecast(0, 1)", x.forecast(0, 1), INVALID);
    }

    private static void advanceWithoutNodes() {
        RateLimiter x = Checks.loaded("limit 5;");
        CHECKS.due("advance(1)", x.advance(1), INVALID);
        CHECKS.due("time()", x.time(), 0);
        CHECKS.due("nextLeaf()", x.nextLeaf(), NONE);
    }

    private static void limits() {
        for (int limit : new int[] {0, 1, 7, 99}) {
            RateLimiter x = Checks.loaded("node a rate 99 burst 999;node b in a burst 999;limit " + limit + ";");
            for (int i = 0; i < 16; i++) {
                x.enqueue(1, 1);
            }
            CHECKS.due("nextLeaf(), limit " + limit, x.nextLeaf(), 1);
            CHECKS.due("advance(1), limit " + limit, x.advance(1), Math.min(16, limit));
        }
        RateLimiter x = Checks.loaded("node a rate 99 burst 999;");
        for (int i = 0; i < 16; i++) {
            x.enqueue(0, 1);
        }
        CHECKS.due("advance(1), without limit", x.advance(1), 10);
        CHECKS.due("advance(2), without limit", x.advance(2), 6);
    }

    private static void leastDistanceFirst() {
        RateLimiter x = Checks.loaded("node a burst 99 ceiling 99;node b in a burst 9 ceiling 9 rate 0;"
                + "node c in a burst 9 ceiling 9 priority 7 rate 0;");
        x.acquire(1, 9);
        x.acquire(2, 3);
        x.enqueue(1, 5);
        x.enqueue(2, 5);
        CHECKS.due("nextLeaf()", x.nextLeaf(), 2);
        CHECKS.due("advance(1)", x.advance(1), 2);
        CHECKS.due("loggedLeaf(1)", x.loggedLeaf(1), 2);
        CHECKS.due("loggedLender(1)", x.loggedLender(1), 2);
        CHECKS.due("loggedLeaf(0)", x.loggedLeaf(0), 1);
        CHECKS.due("loggedLender(0)", x.loggedLender(0), 0);
        // The lender's distance counts, not its depth: the root is 1 step from leaf 1 and 2 steps from leaf 3.
        RateLimiter y = Checks.loaded("node a burst 99 ceiling 99;node b in a burst 9 ceiling 9 rate 0;"
                + "node c in a burst 9 ceiling 9 rate 0;node d in c burst 9 ceiling 9 rate 0;");
        y.acquire(1, 9);
        y.acquire(3, 9);
        y.advance(1);
        y.enqueue(3, 1);
        y.enqueue(1, 1);
        CHECKS.due("nextLeaf()", y.nextLeaf(), 1);
    }

    private static void priorityNext() {
        RateLimiter x = Checks.loaded("node a burst 99;node b in a priority 3;node c in a priority 2;"
                + "node d in a priority 2;");
        x.acquire(2, 1);
        x.enqueue(1, 1);
        x.enqueue(2, 1);
        CHECKS.due("nextLeaf()", x.nextLeaf(), 2);
        x.enqueue(3, 1);
        CHECKS.due("nextLeaf()", x.nextLeaf(), 3);
        CHECKS.due("advance(1)", x.advance(1), 3);
        CHECKS.due("loggedLeaf(2)", x.loggedLeaf(2), 3);
        CHECKS.due("loggedLeaf(1)", x.loggedLeaf(1), 2);
        CHECKS.due("loggedLeaf(0)", x.loggedLeaf(0), 1);
    }

    private static void quotientNext() {
        RateLimiter x = Checks.loaded("node a burst 999;node b in a burst 99 weight 3;node c in a burst 99 weight 2;");
        x.acquire(1, 10);
        x.acquire(2, 7);
        x.enqueue(1, 1);
        x.enqueue(2, 1);
        // 10/3 < 7/2, though both are 3 rounded down.
        CHECKS.due("nextLeaf()", x.nextLeaf(), 1);
        x.setWeight(2, 9);
        CHECKS.due("nextLeaf()", x.nextLeaf(), 2);
        // Within one tick the sent cost grows with each request.
        RateLimiter y = Checks.loaded("node a burst 999;node b in a burst 99;node c in a burst 99 weight 2;");
        for (int i = 0; i < 4; i++) {
            y.enqueue(1, 2);
            y.enqueue(2, 2);
        }
        CHECKS.due("advance(1)", y.advance(1), 8);
        int[] order = {1, 2, 2, 1, 2, 2, 1, 1};
        for (int k = 0; k < 8; k++) {
            CHECKS.due("loggedLeaf(" + (7 - k) + ")", y.loggedLeaf(7 - k), order[k]);
        }
    }

    private static void numberLast() {
        RateLimiter x = Checks.loaded("node a burst 99;node b in a weight 2;node c in a;node d in a;");
        x.acquire(1, 6);
        x.acquire(2, 3);
        x.acquire(3, 3);
        x.enqueue(3, 1);
        x.enqueue(2, 1);
        CHECKS.due("nextLeaf()", x.nextLeaf(), 2);
        x.enqueue(1, 1);
        CHECKS.due("nextLeaf()", x.nextLeaf(), 1);
    }

    private static void frontBlocksQueue() {
        RateLimiter x = Checks.loaded("node a burst 99;node b in a burst 9;node c in a burst 5;");
        x.enqueue(1, 10);
        x.enqueue(1, 1);
        x.enqueue(2, 5);
        CHECKS.due("nextLeaf()", x.nextLeaf(), 2);
        CHECKS.due("advance(3)", x.advance(3), 1);
        CHECKS.due("queueLength(1)", x.queueLength(1), 2);
        CHECKS.due("nextLeaf()", x.nextLeaf(), NONE);
    }

    private static void ages() {
        RateLimiter x = Checks.loaded("node a rate 0;node b in a rate 0 burst 5;node c in a rate 0;age 3;");
        x.enqueue(1, 9);
        x.advance(1);
        x.enqueue(1, 8);
        x.enqueue(2, 99);
        x.advance(2);
        CHECKS.due("ageAt(1, 0)", x.ageAt(1, 0), 3);
        CHECKS.due("queueLength(1)", x.queueLength(1), 2);
        CHECKS.due("droppedCount(1)", x.droppedCount(1), 0);
        x.advance(1);
        CHECKS.due("queueLength(1)", x.queueLength(1), 1);
        CHECKS.due("costAt(1, 0)", x.costAt(1, 0), 8);
        CHECKS.due("droppedCount(1)", x.droppedCount(1), 1);
        CHECKS.due("droppedCount(2)", x.droppedCount(2), 0);
        CHECKS.due("advance(1)", x.advance(1), 0);
        CHECKS.due("queueLength(1)", x.queueLength(1), 0);
        CHECKS.due("droppedCount(1)", x.droppedCount(1), 2);
        CHECKS.due("droppedCount(2)", x.droppedCount(2), 1);
        CHECKS.due("sentCount(1)", x.sentCount(1), 0);
        RateLimiter y = Checks.loaded("node a rate 0 burst 1;");
        y.enqueue(0, 2);
        for (int i = 0; i < 10; i++) {
            y.advance(500);
        }
        CHECKS.due("ageAt(0, 0) without greatest age", y.ageAt(0, 0), 5000);
        CHECKS.due("droppedCount(0)", y.droppedCount(0), 0);
    }

    private static void ageZero() {
        RateLimiter x = Checks.loaded("node a rate 9;age 0;");
        for (int i = 0; i < 16; i++) {
            x.enqueue(0, 1);
        }
        CHECKS.due("advance(1)", x.advance(1), 0);
        CHECKS.due("droppedCount(0)", x.droppedCount(0), 16);
        CHECKS.due("queueLength(0)", x.queueLength(0), 0);
    }

    private static void droppedBeforeDispatch() {
        RateLimiter x = Checks.loaded("node a rate 9 ceiling 9 burst 9;age 1;");
        x.acquire(0, 9);
        x.enqueue(0, 9);
        x.enqueue(0, 9);
        CHECKS.due("advance(1)", x.advance(1), 1);
        x.enqueue(0, 4);
        CHECKS.due("advance(1)", x.advance(1), 1);
        CHECKS.due("loggedCost(0)", x.loggedCost(0), 4);
        CHECKS.due("droppedCount(0)", x.droppedCount(0), 1);
    }

    private static void tokensBeforeDispatch() {
        RateLimiter x = Checks.loaded("node a rate 0 ceiling 9 burst 9;at 2 a rate 5;");
        x.acquire(0, 9);
        x.enqueue(0, 5);
        CHECKS.due("advance(1)", x.advance(1), 0);
        CHECKS.due("advance(1)", x.advance(1), 1);
        CHECKS.due("tokens(0)", x.tokens(0), 0);
        CHECKS.due("loggedTime(0)", x.loggedTime(0), 2);
    }

    private static void forecasts() {
        RateLimiter x = Checks.loaded("node a rate 2 ceiling 9 burst 9;node b in a rate 1 ceiling 9 burst 9;"
                + "node c in a rate 0 ceiling 9 burst 9;limit 1;age 9;");
        for (int i = 0; i < 6; i++) {
            x.enqueue(1, 4);
            x.enqueue(2, 3);
        }
        x.save(0);
        for (int ticks = 1; ticks <= 12; ticks++) {
            int ofOne = x.forecast(1, ticks);
            int ofTwo = x.forecast(2, ticks);
            CHECKS.due("time() after forecast", x.time(), 0);
            CHECKS.due("logCount() after forecast", x.logCount(), 0);
            CHECKS.due("queueLength(1) after forecast", x.queueLength(1), 6);
            CHECKS.due("tokens(1) after forecast", x.tokens(1), 9);
            CHECKS.due("droppedCount(1) after forecast", x.droppedCount(1), 0);
            int sent = x.advance(ticks);
            CHECKS.due("forecast(1, " + ticks + ")", ofOne, x.sentCount(1));
            CHECKS.due("forecast(2, " + ticks + ")", ofTwo, x.sentCount(2));
            CHECKS.due("forecast of both, " + ticks, ofOne + ofTwo, sent);
            x.restore(0);
        }
        // Each tick sends one: leaf 1 (4), leaf 2 (3), leaf 2 (6), leaf 1 (8), by sent cost, as the tokens allow.
        CHECKS.due("forecast(1, 1)", x.forecast(1, 1), 1);
        CHECKS.due("forecast(2, 1)", x.forecast(2, 1), 0);
        CHECKS.due("forecast(2, 3)", x.forecast(2, 3), 2);
        x.acquire(1, 1);
        CHECKS.due("forecast(1, 1) after acquire", x.forecast(1, 1), 0);
        CHECKS.due("forecast(2, 1) after acquire", x.forecast(2, 1), 1);
    }

    private static void forecastMakesTimedChanges() {
        RateLimiter x = Checks.loaded("node a rate 0 ceiling 9 burst 9;at 3 a rate 9;");
        x.acquire(0, 9);
        x.enqueue(0, 9);
        CHECKS.due("forecast(0, 2)", x.forecast(0, 2), 0);
        CHECKS.due("forecast(0, 3)", x.forecast(0, 3), 1);
        CHECKS.due("rate(0)", x.rate(0), 0);
        CHECKS.due("drainTime(0)", x.drainTime(0), 3);
        CHECKS.due("rate(0)", x.rate(0), 0);
    }

    private static void drainTimes() {
        RateLimiter x = Checks.loaded("node a rate 1 ceiling 9 burst 9;");
        CHECKS.due("drainTime(0) of an empty queue", x.drainTime(0), 0);
        x.enqueue(0, 9);
        CHECKS.due("drainTime(0)", x.drainTime(0), 1);
        x.enqueue(0, 9);
        CHECKS.due("drainTime(0)", x.drainTime(0), 10);
        x.enqueue(0, 10);
        CHECKS.due("drainTime(0), never", x.drainTime(0), NONE);
        CHECKS.due("time()", x.time(), 0);
        CHECKS.due("queueLength(0)", x.queueLength(0), 3);
        RateLimiter y = Checks.loaded("node a rate 0;age 499;");
        y.acquire(0, 10);
        y.enqueue(0, 10);
        CHECKS.due("drainTime(0) by age", y.drainTime(0), 500);
        RateLimiter z = Checks.loaded("node a rate 0;age 500;");
        z.acquire(0, 10);
        z.enqueue(0, 10);
        CHECKS.due("drainTime(0), 501 ticks needed", z.drainTime(0), NONE);
        z.advance(1);
        CHECKS.due("drainTime(0), 500 ticks needed", z.drainTime(0), 500);
    }

    private static void drainTimeAtTheEnd() {
        RateLimiter x = Checks.loaded("node a rate 0;age 9;");
        for (int i = 0; i < 9; i++) {
            x.advance(500);
        }
        x.advance(490);
        x.acquire(0, 10);
        x.enqueue(0, 10);
        CHECKS.due("drainTime(0) at 4990", x.drainTime(0), 10);
        x.clearQueue(0);
        x.advance(1);
        x.enqueue(0, 10);
        CHECKS.due("drainTime(0) at 4991", x.drainTime(0), NONE);
        x.advance(9);
        CHECKS.due("drainTime(0) at 5000", x.drainTime(0), NONE);
        x.clearQueue(0);
        CHECKS.due("drainTime(0) at 5000, empty", x.drainTime(0), 0);
    }
}
