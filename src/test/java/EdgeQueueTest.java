/** The edges that section 4 and promises 34 to 42 of the document name: queues, dispatch, advance and its forecasts. */
final class EdgeQueueTest {
    private static final Checks CHECKS = new Checks("EdgeQueueTest");
    private static final int INVALID = RateLimiter.INVALID;
    private static final int NONE = RateLimiter.NONE;
    private static final int[] FAR = {16, 17, 100, Integer.MAX_VALUE};
    private static final int[] NEGATIVE = {-1, -2, -16, Integer.MIN_VALUE};
    private static final int[] WRONG_TICKS = {0, -1, -500, Integer.MIN_VALUE, 501, 502, 5000, 5001, Integer.MAX_VALUE};

    public static void main(String[] args) {
        CHECKS.test("section 4: a queue of at most 16 requests, of each leaf", EdgeQueueTest::sixteenEach);
        CHECKS.test("section 4: first in, first out, also when the queue was full", EdgeQueueTest::firstInFirstOut);
        CHECKS.test("section 4: numbers from 0, over all queues", EdgeQueueTest::numbers);
        CHECKS.test("section 4: the age is 0 at first, then the ticks since", EdgeQueueTest::ages);
        CHECKS.test("section 4: a request of the greatest age stays, one older is dropped", EdgeQueueTest::greatestAge);
        CHECKS.test("section 4: the greatest age 0", EdgeQueueTest::ageZero);
        CHECKS.test("section 4: the greatest age 999", EdgeQueueTest::age999);
        CHECKS.test("section 4: every request that is too old, of every queue", EdgeQueueTest::dropsAll);
        CHECKS.test("section 4: the limit 0", () -> limit(0, 0));
        CHECKS.test("section 4: the limit 1", () -> limit(1, 1));
        CHECKS.test("section 4: the limit 98", () -> limit(98, 98));
        CHECKS.test("section 4: the limit 99", () -> limit(99, 99));
        CHECKS.test("section 4: the limit counts for each tick anew", EdgeQueueTest::limitEachTick);
        CHECKS.test("section 4: only the front request, though another could be sent", EdgeQueueTest::frontOnly);
        CHECKS.test("section 4: a front request is sent as soon as it can be", EdgeQueueTest::frontAsSoonAsItCan);
        CHECKS.test("section 4: the least distance, before any priority", EdgeQueueTest::distanceFirst);
        CHECKS.test("section 4: the least priority number, before any quotient", EdgeQueueTest::priorityFirst);
        CHECKS.test("section 4: the least quotient, as exact fractions", EdgeQueueTest::quotientExact);
        CHECKS.test("section 4: the least number, of equal quotients", EdgeQueueTest::numberOfEqual);
        CHECKS.test("section 4: the sent cost is that of acquire() too", EdgeQueueTest::acquiredCounts);
        CHECKS.test("promise 34: queueLength, no leaf", () -> Wrong.leaves(CHECKS, "queueLength", RateLimiter::queueLength));
        CHECKS.test("promise 34: queueLength 0 to 16", EdgeQueueTest::queueLengths);
        CHECKS.test("promise 35: NONE if no front request can be sent", EdgeQueueTest::nextLeafNone);
        CHECKS.test("promise 35: whatever the limit is", EdgeQueueTest::nextLeafWithoutLimit);
        CHECKS.test("promise 35: nextLeaf neither refills nor drops", EdgeQueueTest::nextLeafNow);
        CHECKS.test("promise 36: queuedCost, no leaf", () -> Wrong.leaves(CHECKS, "queuedCost", RateLimiter::queuedCost));
        CHECKS.test("promise 36: queuedCost 0 and the greatest", EdgeQueueTest::queuedCosts);
        CHECKS.test("promise 37: requestAt, no leaf", () -> Wrong.leaves(CHECKS, "requestAt", (x, leaf) -> x.requestAt(leaf, 0)));
        CHECKS.test("promise 37: NONE if there is none", () -> places(RateLimiter::requestAt, 40));
        CHECKS.test("promises 37 to 39: the front of the root's queue, if it is the only node", EdgeQueueTest::frontOfRoot);
        CHECKS.test("promise 37: INVALID also if the place is negative", () -> negativePlaces(RateLimiter::requestAt));
        CHECKS.test("promise 38: costAt, no leaf", () -> Wrong.leaves(CHECKS, "costAt", (x, leaf) -> x.costAt(leaf, 0)));
        CHECKS.test("promise 38: NONE likewise", () -> places(RateLimiter::costAt, 60));
        CHECKS.test("promise 38: INVALID likewise", () -> negativePlaces(RateLimiter::costAt));
        CHECKS.test("promise 39: ageAt, no leaf", () -> Wrong.leaves(CHECKS, "ageAt", (x, leaf) -> x.ageAt(leaf, 0)));
        CHECKS.test("promise 39: NONE likewise", () -> places(RateLimiter::ageAt, 0));
        CHECKS.test("promise 39: INVALID likewise", () -> negativePlaces(RateLimiter::ageAt));
        CHECKS.test("promise 39: the ages 0 and 5000", EdgeQueueTest::greatestAgeAt);
        CHECKS.test("promise 40: ticks from 1 to 500", EdgeQueueTest::advanceRange);
        CHECKS.test("promise 40: the time would exceed 5000", EdgeQueueTest::advanceBeyond);
        CHECKS.test("promise 40: there are no nodes", EdgeQueueTest::advanceWithoutNodes);
        CHECKS.test("promise 40: nothing happens then", EdgeQueueTest::advanceRefused);
        CHECKS.test("promise 40: returns the number dispatched, not those of acquire()", EdgeQueueTest::advanceReturns);
        CHECKS.test("promise 41: forecast, no leaf", () -> Wrong.leaves(CHECKS, "forecast", (x, leaf) -> x.forecast(leaf, 1)));
        CHECKS.test("promise 41: INVALID if advance() would be", EdgeQueueTest::forecastRange);
        CHECKS.test("promise 41: the ticks are taken back", EdgeQueueTest::forecastTakesBack);
        CHECKS.test("promise 41: of one leaf alone, 0 too, not what was sent before", EdgeQueueTest::forecastOfLeaf);
        CHECKS.test("promise 42: drainTime, no leaf", () -> Wrong.leaves(CHECKS, "drainTime", RateLimiter::drainTime));
        CHECKS.test("promise 42: 0 if it is empty now", EdgeQueueTest::drainedNow);
        CHECKS.test("promise 42: the least number of ticks, 1 and 500 too", EdgeQueueTest::drainTimes);
        CHECKS.test("promise 42: NONE if it would not become empty", EdgeQueueTest::neverDrained);
        CHECKS.test("promise 42: not beyond time 5000", EdgeQueueTest::drainAtTheEnd);
        CHECKS.test("promise 42: the queue becomes empty by drops too", EdgeQueueTest::drainedByAge);
        CHECKS.test("promise 42: drainTime changes nothing", EdgeQueueTest::drainChangesNothing);
        CHECKS.finish();
    }

    interface At {
        int of(RateLimiter x, int leaf, int place);
    }

    private static void enqueue(RateLimiter x, int leaf, int cost, int times) {
        for (int i = 0; i < times; i++) {
            x.enqueue(leaf, cost);
        }
    }

    private static void toTime(RateLimiter x, int time) {
        while (x.time() < time) {
            x.advance(Math.min(500, time - x.time()));
        }
    }

    /** A root that nothing stops, above leaves that have enough, too. */
    private static RateLimiter rich(String rest) {
        return Checks.loaded("node a rate 99 ceiling 999 burst 999;node b in a rate 99 ceiling 999 burst 999;"
                + "node c in a rate 99 ceiling 999 burst 999;" + rest);
    }

    // ---- section 4

    private static void sixteenEach() {
        RateLimiter x = Checks.loaded(Wrong.twelve());
        for (int leaf = 1; leaf < 12; leaf++) {
            for (int i = 0; i < 16; i++) {
                CHECKS.due("enqueue(" + leaf + ", 20)", x.enqueue(leaf, 20), 16 * (leaf - 1) + i);
            }
        }
        for (int leaf = 1; leaf < 12; leaf++) {
            CHECKS.due("enqueue(" + leaf + ", 20), the 17th", x.enqueue(leaf, 20), NONE);
            CHECKS.due("queueLength(" + leaf + ")", x.queueLength(leaf), 16);
            CHECKS.due("requestAt(" + leaf + ", 15)", x.requestAt(leaf, 15), 16 * leaf - 1);
            CHECKS.due("droppedCount(" + leaf + ")", x.droppedCount(leaf), 1);
        }
    }

    private static void firstInFirstOut() {
        RateLimiter x = rich("limit 3;");
        for (int i = 0; i < 16; i++) {
            x.enqueue(1, 1 + i);
        }
        for (int round = 0; round < 10; round++) {
            CHECKS.due("advance(1)", x.advance(1), 3);
            CHECKS.due("loggedCost(2)", x.loggedCost(2), 1 + 3 * round);
            CHECKS.due("loggedCost(0)", x.loggedCost(0), 3 + 3 * round);
            for (int i = 0; i < 3; i++) {
                x.enqueue(1, 17 + 3 * round + i);
            }
            CHECKS.due("queueLength(1)", x.queueLength(1), 16);
            CHECKS.due("costAt(1, 0)", x.costAt(1, 0), 4 + 3 * round);
            CHECKS.due("costAt(1, 15)", x.costAt(1, 15), 19 + 3 * round);
            CHECKS.due("requestAt(1, 0)", x.requestAt(1, 0), 3 + 3 * round);
            CHECKS.due("requestAt(1, 15)", x.requestAt(1, 15), 18 + 3 * round);
        }
    }

    private static void numbers() {
        RateLimiter x = rich("");
        CHECKS.due("enqueue(2, 1)", x.enqueue(2, 1), 0);
        CHECKS.due("enqueue(1, 1)", x.enqueue(1, 1), 1);
        CHECKS.due("enqueue(2, 1)", x.enqueue(2, 1), 2);
        CHECKS.due("acquire(1, 1)", x.acquire(1, 1), 0);
        x.advance(1);
        CHECKS.due("enqueue(1, 1), all were sent", x.enqueue(1, 1), 3);
        CHECKS.due("requestAt(1, 0)", x.requestAt(1, 0), 3);
        Checks.load(x, "node a;");
        CHECKS.due("enqueue(0, 1) after a load", x.enqueue(0, 1), 0);
    }

    private static void ages() {
        RateLimiter x = Checks.loaded("node a burst 1 rate 0;");
        x.enqueue(0, 2);
        CHECKS.due("ageAt(0, 0)", x.ageAt(0, 0), 0);
        x.advance(1);
        CHECKS.due("ageAt(0, 0)", x.ageAt(0, 0), 1);
        x.advance(6);
        x.enqueue(0, 3);
        CHECKS.due("ageAt(0, 0)", x.ageAt(0, 0), 7);
        CHECKS.due("ageAt(0, 1)", x.ageAt(0, 1), 0);
    }

    private static void greatestAge() {
        for (int age : new int[] {1, 2, 5}) {
            RateLimiter x = Checks.loaded("node a burst 1 rate 0;age " + age + ";");
            x.advance(3);
            x.enqueue(0, 2);
            x.advance(age);
            CHECKS.due("ageAt(0, 0), age " + age, x.ageAt(0, 0), age);
            CHECKS.due("droppedCount(0), age " + age, x.droppedCount(0), 0);
            x.advance(1);
            CHECKS.due("queueLength(0), age " + age, x.queueLength(0), 0);
            CHECKS.due("droppedCount(0), age " + age, x.droppedCount(0), 1);
        }
    }

    private static void ageZero() {
        RateLimiter x = rich("age 0;");
        enqueue(x, 1, 1, 16);
        CHECKS.due("ageAt(1, 0)", x.ageAt(1, 0), 0);
        CHECKS.due("nextLeaf()", x.nextLeaf(), 1);
        CHECKS.due("advance(1)", x.advance(1), 0);
        CHECKS.due("queueLength(1)", x.queueLength(1), 0);
        CHECKS.due("droppedCount(1)", x.droppedCount(1), 16);
        CHECKS.due("enqueue(1, 1)", x.enqueue(1, 1), 16);
    }

    private static void age999() {
        RateLimiter x = Checks.loaded("node a burst 1 rate 0;age 999;");
        x.enqueue(0, 2);
        toTime(x, 999);
        CHECKS.due("ageAt(0, 0)", x.ageAt(0, 0), 999);
        x.advance(1);
        CHECKS.due("queueLength(0)", x.queueLength(0), 0);
        CHECKS.due("droppedCount(0)", x.droppedCount(0), 1);
    }

    private static void dropsAll() {
        RateLimiter x = Checks.loaded(Wrong.twelve().replace("in a", "in a burst 1 rate 0") + "age 2;limit 0;");
        for (int leaf = 1; leaf < 12; leaf++) {
            enqueue(x, leaf, 2, 15);
        }
        x.advance(1);
        for (int leaf = 1; leaf < 12; leaf++) {
            x.enqueue(leaf, 2);
        }
        x.advance(2);
        for (int leaf = 1; leaf < 12; leaf++) {
            CHECKS.due("queueLength(" + leaf + ")", x.queueLength(leaf), 1);
            CHECKS.due("droppedCount(" + leaf + ")", x.droppedCount(leaf), 15);
            CHECKS.due("ageAt(" + leaf + ", 0)", x.ageAt(leaf, 0), 2);
        }
        x.advance(1);
        CHECKS.due("droppedCount(11)", x.droppedCount(11), 16);
        CHECKS.due("sentCount(11)", x.sentCount(11), 0);
    }

    /** Seven leaves with 16 requests each, of which all could be sent. */
    private static void limit(int limit, int sent) {
        StringBuilder text = new StringBuilder("node a rate 99 burst 999;limit " + limit + ";");
        for (int i = 1; i < 8; i++) {
            text.append("node ").append((char) ('a' + i)).append(" in a burst 99;");
        }
        RateLimiter x = Checks.loaded(text.toString());
        int queued = 0;
        for (int leaf = 1; leaf < 8; leaf++) {
            enqueue(x, leaf, 1, 16);
        }
        CHECKS.due("advance(1)", x.advance(1), sent);
        for (int leaf = 1; leaf < 8; leaf++) {
            queued += x.queueLength(leaf);
        }
        CHECKS.due("requests in all queues", queued, 112 - sent);
        CHECKS.due("nextLeaf() == NONE", x.nextLeaf() == NONE, false);
    }

    private static void limitEachTick() {
        RateLimiter x = rich("limit 2;");
        enqueue(x, 1, 1, 7);
        CHECKS.due("advance(3)", x.advance(3), 6);
        CHECKS.due("advance(1)", x.advance(1), 1);
        CHECKS.due("advance(1)", x.advance(1), 0);
        RateLimiter y = rich("limit 0;");
        enqueue(y, 1, 1, 7);
        CHECKS.due("advance(500), limit 0", y.advance(500), 0);
    }

    private static void frontOnly() {
        RateLimiter x = Checks.loaded("node a burst 9 rate 0;");
        x.enqueue(0, 10);
        x.enqueue(0, 1);
        CHECKS.due("nextLeaf()", x.nextLeaf(), NONE);
        CHECKS.due("advance(500)", x.advance(500), 0);
        CHECKS.due("queueLength(0)", x.queueLength(0), 2);
    }

    private static void frontAsSoonAsItCan() {
        RateLimiter x = Checks.loaded("node a burst 9 rate 1 ceiling 9;");
        x.acquire(0, 9);
        x.enqueue(0, 9);
        CHECKS.due("advance(8)", x.advance(8), 0);
        CHECKS.due("nextLeaf()", x.nextLeaf(), NONE);
        CHECKS.due("advance(1)", x.advance(1), 1);
        CHECKS.due("loggedTime(0)", x.loggedTime(0), 9);
    }

    private static void distanceFirst() {
        // The leaves 1 and 2 can borrow from the root, leaf 3 has its own, with the worst priority and quotient.
        RateLimiter x = Checks.loaded("node a rate 50 ceiling 99 burst 99;node b in a rate 0 ceiling 9 burst 9;"
                + "node c in a rate 0 ceiling 9 burst 9;node d in a rate 9 ceiling 9 burst 9 priority 7;");
        x.acquire(1, 9);
        x.acquire(2, 9);
        x.acquire(3, 9);
        x.advance(1);
        x.acquire(3, 5);
        enqueue(x, 1, 1, 1);
        enqueue(x, 2, 1, 1);
        enqueue(x, 3, 4, 2);
        CHECKS.due("nextLeaf(), distance 0", x.nextLeaf(), 3);
        CHECKS.due("acquire(3, 4)", x.acquire(3, 4), 0);
        CHECKS.due("nextLeaf(), all have distance 1", x.nextLeaf(), 1);
    }

    private static void priorityFirst() {
        RateLimiter x = Checks.loaded("node a burst 99;node b in a priority 7;node c in a priority 6;node d in a priority 7;");
        x.acquire(2, 9);
        enqueue(x, 1, 1, 1);
        enqueue(x, 3, 1, 1);
        CHECKS.due("nextLeaf(), 7 and 7", x.nextLeaf(), 1);
        enqueue(x, 2, 1, 1);
        CHECKS.due("nextLeaf(), 6 and the greater quotient", x.nextLeaf(), 2);
        RateLimiter y = Checks.loaded("node a burst 99;node b in a priority 1;node c in a priority 0;");
        enqueue(y, 1, 1, 1);
        enqueue(y, 2, 1, 1);
        CHECKS.due("nextLeaf(), 1 and 0", y.nextLeaf(), 2);
    }

    private static void quotientExact() {
        RateLimiter x = Checks.loaded("node a burst 999;node b in a burst 999 weight 9;node c in a burst 999 weight 8;");
        x.acquire(1, 98);
        x.acquire(2, 87);
        enqueue(x, 1, 1, 1);
        enqueue(x, 2, 1, 1);
        // 98/9 > 87/8 by 1/72.
        CHECKS.due("nextLeaf(), 98/9 and 87/8", x.nextLeaf(), 2);
        x.acquire(2, 1);
        // 98/9 < 88/8.
        CHECKS.due("nextLeaf(), 98/9 and 88/8", x.nextLeaf(), 1);
        x.acquire(1, 1);
        CHECKS.due("nextLeaf(), 99/9 and 88/8", x.nextLeaf(), 1);
        x.acquire(1, 1);
        CHECKS.due("nextLeaf(), 100/9 and 88/8", x.nextLeaf(), 2);
        x.setWeight(2, 7);
        CHECKS.due("nextLeaf(), 100/9 and 88/7", x.nextLeaf(), 1);
    }

    private static void numberOfEqual() {
        RateLimiter x = Checks.loaded(Wrong.twelve().replace("node a;", "node a burst 99;"));
        enqueue(x, 11, 1, 1);
        CHECKS.due("nextLeaf(), one", x.nextLeaf(), 11);
        enqueue(x, 10, 1, 1);
        CHECKS.due("nextLeaf(), two", x.nextLeaf(), 10);
        for (int leaf = 9; leaf > 0; leaf--) {
            enqueue(x, leaf, 1, 1);
        }
        CHECKS.due("nextLeaf(), all", x.nextLeaf(), 1);
        CHECKS.due("advance(1)", x.advance(1), 10);
        CHECKS.due("nextLeaf(), the last", x.nextLeaf(), 11);
        for (int k = 0; k < 10; k++) {
            CHECKS.due("loggedLeaf(" + k + ")", x.loggedLeaf(k), 10 - k);
        }
    }

    private static void acquiredCounts() {
        RateLimiter x = rich("limit 1;");
        x.acquire(1, 1);
        enqueue(x, 1, 1, 1);
        enqueue(x, 2, 1, 1);
        CHECKS.due("nextLeaf()", x.nextLeaf(), 2);
        x.advance(1);
        enqueue(x, 2, 1, 1);
        CHECKS.due("sentCost(2)", x.sentCost(2), 1);
        CHECKS.due("nextLeaf(), both have sent 1", x.nextLeaf(), 1);
    }

    // ---- promises 34 to 39

    private static void queueLengths() {
        RateLimiter x = Checks.loaded("node a burst 1 rate 0;");
        for (int length = 0; length < 16; length++) {
            CHECKS.due("queueLength(0)", x.queueLength(0), length);
            x.enqueue(0, 2);
        }
        CHECKS.due("queueLength(0)", x.queueLength(0), 16);
        x.enqueue(0, 2);
        CHECKS.due("queueLength(0)", x.queueLength(0), 16);
        x.clearQueue(0);
        CHECKS.due("queueLength(0)", x.queueLength(0), 0);
    }

    private static void nextLeafNone() {
        CHECKS.due("of a new object", new RateLimiter().nextLeaf(), NONE);
        CHECKS.due("without nodes", Checks.loaded("limit 9;").nextLeaf(), NONE);
        RateLimiter x = Checks.loaded("node a burst 9 rate 0;");
        CHECKS.due("of empty queues", x.nextLeaf(), NONE);
        x.enqueue(0, 10);
        CHECKS.due("one too few", x.nextLeaf(), NONE);
        x.clearQueue(0);
        x.enqueue(0, 9);
        CHECKS.due("just enough", x.nextLeaf(), 0);
        x.clearQueue(0);
        CHECKS.due("of cleared queues", x.nextLeaf(), NONE);
    }

    private static void nextLeafWithoutLimit() {
        RateLimiter x = rich("limit 0;");
        enqueue(x, 2, 1, 1);
        CHECKS.due("nextLeaf(), limit 0", x.nextLeaf(), 2);
        CHECKS.due("advance(1), limit 0", x.advance(1), 0);
        CHECKS.due("nextLeaf(), limit 0", x.nextLeaf(), 2);
    }

    private static void nextLeafNow() {
        RateLimiter x = Checks.loaded("node a rate 9 burst 9;age 0;");
        x.acquire(0, 9);
        x.enqueue(0, 1);
        CHECKS.due("nextLeaf() without tokens", x.nextLeaf(), NONE);
        RateLimiter y = Checks.loaded("node a rate 9 burst 9;age 0;");
        y.enqueue(0, 1);
        CHECKS.due("nextLeaf() of what the tick would drop", y.nextLeaf(), 0);
        Twins.unchanged(CHECKS, "nextLeaf", RateLimiter::nextLeaf);
    }

    private static void queuedCosts() {
        RateLimiter x = rich("");
        CHECKS.due("queuedCost(1)", x.queuedCost(1), 0);
        enqueue(x, 1, 99, 17);
        CHECKS.due("queuedCost(1)", x.queuedCost(1), 16 * 99);
        CHECKS.due("queuedCost(2)", x.queuedCost(2), 0);
        x.advance(1);
        CHECKS.due("queuedCost(1) after ten were sent", x.queuedCost(1), 6 * 99);
        x.clearQueue(1);
        CHECKS.due("queuedCost(1)", x.queuedCost(1), 0);
    }

    /** Leaf 2 holds 16 requests whose numbers are 40 to 55 and whose costs are 60 to 75. */
    private static RateLimiter queued() {
        RateLimiter x = Checks.loaded("node a burst 1 rate 0;node b in a;node c in a;");
        for (int i = 0; i < 40; i++) {
            x.clearQueue(1);
            x.enqueue(1, 1);
        }
        for (int i = 0; i < 16; i++) {
            x.enqueue(2, 60 + i);
        }
        return x;
    }

    private static void places(At at, int first) {
        RateLimiter x = queued();
        int step = first == 0 ? 0 : 1;
        for (int place = 0; place < 16; place++) {
            CHECKS.due("place " + place, at.of(x, 2, place), first + step * place);
        }
        for (int place : FAR) {
            CHECKS.due("place " + place + " of a full queue", at.of(x, 2, place), NONE);
            CHECKS.due("place " + place + " of a queue of one", at.of(x, 1, place), NONE);
        }
        CHECKS.due("place 1 of a queue of one", at.of(x, 1, 1), NONE);
        x.clearQueue(2);
        CHECKS.due("place 0 of an empty queue", at.of(x, 2, 0), NONE);
        CHECKS.due("place 15 of an empty queue", at.of(x, 2, 15), NONE);
        CHECKS.due("place 99 of no leaf", at.of(x, 0, 99), INVALID);
        CHECKS.due("place 99 of no node", at.of(x, 3, 99), INVALID);
    }

    private static void frontOfRoot() {
        RateLimiter x = Checks.loaded("node a burst 1 rate 0;");
        CHECKS.due("requestAt(0, 0), empty", x.requestAt(0, 0), NONE);
        CHECKS.due("costAt(0, 0), empty", x.costAt(0, 0), NONE);
        CHECKS.due("ageAt(0, 0), empty", x.ageAt(0, 0), NONE);
        for (int number = 0; number < 3; number++) {
            x.clearQueue(0);
            x.enqueue(0, 99 - number);
            x.advance(2);
            CHECKS.due("requestAt(0, 0)", x.requestAt(0, 0), number);
            CHECKS.due("costAt(0, 0)", x.costAt(0, 0), 99 - number);
            CHECKS.due("ageAt(0, 0)", x.ageAt(0, 0), 2);
        }
    }

    private static void negativePlaces(At at) {
        RateLimiter x = queued();
        for (int place : NEGATIVE) {
            CHECKS.due("place " + place + " of a full queue", at.of(x, 2, place), INVALID);
            CHECKS.due("place " + place + " of no leaf", at.of(x, 0, place), INVALID);
            CHECKS.due("place " + place + " of no node", at.of(x, 3, place), INVALID);
        }
        x.clearQueue(2);
        CHECKS.due("place -1 of an empty queue", at.of(x, 2, -1), INVALID);
    }

    private static void greatestAgeAt() {
        RateLimiter x = Checks.loaded("node a burst 1 rate 0;");
        x.enqueue(0, 2);
        CHECKS.due("ageAt(0, 0)", x.ageAt(0, 0), 0);
        toTime(x, 5000);
        CHECKS.due("ageAt(0, 0)", x.ageAt(0, 0), 5000);
        x.enqueue(0, 2);
        CHECKS.due("ageAt(0, 1)", x.ageAt(0, 1), 0);
    }

    // ---- promises 40 to 42

    private static void advanceRange() {
        RateLimiter x = Checks.loaded("node a;");
        for (int ticks : WRONG_TICKS) {
            CHECKS.due("advance(" + ticks + ")", x.advance(ticks), INVALID);
            CHECKS.due("time()", x.time(), 0);
        }
        CHECKS.due("advance(1)", x.advance(1), 0);
        CHECKS.due("time()", x.time(), 1);
        CHECKS.due("advance(500)", x.advance(500), 0);
        CHECKS.due("time()", x.time(), 501);
        CHECKS.due("advance(499)", x.advance(499), 0);
        CHECKS.due("time()", x.time(), 1000);
    }

    private static void advanceBeyond() {
        RateLimiter x = Checks.loaded("node a;");
        toTime(x, 4501);
        CHECKS.due("advance(500) at 4501", x.advance(500), INVALID);
        CHECKS.due("time()", x.time(), 4501);
        CHECKS.due("advance(499) at 4501", x.advance(499), 0);
        CHECKS.due("advance(1) at 5000", x.advance(1), INVALID);
        CHECKS.due("advance(500) at 5000", x.advance(500), INVALID);
        CHECKS.due("advance(MAX) at 5000", x.advance(Integer.MAX_VALUE), INVALID);
        CHECKS.due("time()", x.time(), 5000);
        RateLimiter y = Checks.loaded("node a;");
        toTime(y, 4500);
        CHECKS.due("advance(500) at 4500", y.advance(500), 0);
        CHECKS.due("time()", y.time(), 5000);
        RateLimiter z = Checks.loaded("node a;");
        toTime(z, 4999);
        CHECKS.due("advance(2) at 4999", z.advance(2), INVALID);
        CHECKS.due("advance(1) at 4999", z.advance(1), 0);
        CHECKS.due("time()", z.time(), 5000);
    }

    private static void advanceWithoutNodes() {
        CHECKS.due("advance(1) of a new object", new RateLimiter().advance(1), INVALID);
        CHECKS.due("advance(500) of a new object", new RateLimiter().advance(500), INVALID);
        RateLimiter x = Checks.loaded("limit 5;age 5;");
        CHECKS.due("advance(1) without nodes", x.advance(1), INVALID);
        CHECKS.due("time()", x.time(), 0);
        Checks.load(x, "node a;");
        CHECKS.due("advance(1) with a node", x.advance(1), 0);
        Checks.load(x, "");
        CHECKS.due("advance(1) without nodes again", x.advance(1), INVALID);
    }

    private static void advanceRefused() {
        Twins.unchanged(CHECKS, "refused advances", x -> {
            for (int ticks : WRONG_TICKS) {
                CHECKS.due("advance(" + ticks + ")", x.advance(ticks), INVALID);
            }
        });
        RateLimiter asked = Twins.busy();
        RateLimiter twin = Twins.busy();
        toTime(asked, 4600);
        toTime(twin, 4600);
        CHECKS.due("advance(401)", asked.advance(401), INVALID);
        Twins.same(CHECKS, "an advance beyond the time 5000", asked, twin);
    }

    private static void advanceReturns() {
        RateLimiter x = rich("");
        CHECKS.due("advance(1), nothing queued", x.advance(1), 0);
        x.acquire(1, 1);
        CHECKS.due("advance(1), nothing but acquire()", x.advance(1), 0);
        enqueue(x, 1, 1, 16);
        enqueue(x, 2, 1, 9);
        CHECKS.due("advance(2), both leaves", x.advance(2), 20);
        CHECKS.due("advance(500), the rest", x.advance(500), 5);
    }

    private static void forecastRange() {
        RateLimiter x = rich("");
        for (int ticks : WRONG_TICKS) {
            CHECKS.due("forecast(1, " + ticks + ")", x.forecast(1, ticks), INVALID);
        }
        CHECKS.due("forecast(1, 1)", x.forecast(1, 1), 0);
        CHECKS.due("forecast(1, 500)", x.forecast(1, 500), 0);
        CHECKS.due("forecast(0, 1), no leaf", x.forecast(0, 1), INVALID);
        CHECKS.due("forecast(0, 501), no leaf", x.forecast(0, 501), INVALID);
        toTime(x, 4501);
        CHECKS.due("forecast(1, 500) at 4501", x.forecast(1, 500), INVALID);
        CHECKS.due("forecast(1, 499) at 4501", x.forecast(1, 499), 0);
        toTime(x, 5000);
        CHECKS.due("forecast(1, 1) at 5000", x.forecast(1, 1), INVALID);
        CHECKS.due("forecast(0, 1) of a new object", new RateLimiter().forecast(0, 1), INVALID);
    }

    private static void forecastTakesBack() {
        Twins.unchanged(CHECKS, "forecast", x -> {
            for (int leaf = -1; leaf < 4; leaf++) {
                for (int ticks : new int[] {0, 1, 4, 20, 500, 501}) {
                    x.forecast(leaf, ticks);
                }
            }
        });
    }

    private static void forecastOfLeaf() {
        RateLimiter x = rich("limit 5;");
        x.acquire(1, 1);
        enqueue(x, 1, 1, 3);
        enqueue(x, 2, 1, 16);
        x.advance(1);
        // The tick sent of the leaves 2, 1, 2, 1 and 2, so 1 and 13 are left.
        CHECKS.due("queueLength(1)", x.queueLength(1), 1);
        CHECKS.due("queueLength(2)", x.queueLength(2), 13);
        CHECKS.due("forecast(1, 1)", x.forecast(1, 1), 1);
        CHECKS.due("forecast(2, 1)", x.forecast(2, 1), 4);
        CHECKS.due("forecast(2, 2)", x.forecast(2, 2), 9);
        CHECKS.due("forecast(2, 3)", x.forecast(2, 3), 13);
        CHECKS.due("forecast(2, 500)", x.forecast(2, 500), 13);
        x.clearQueue(1);
        CHECKS.due("forecast(1, 500) of an empty queue", x.forecast(1, 500), 0);
    }

    private static void drainedNow() {
        RateLimiter x = Checks.loaded("node a burst 1 rate 0;node b in a;node c in a;");
        x.enqueue(2, 2);
        CHECKS.due("drainTime(1), empty", x.drainTime(1), 0);
        x.enqueue(1, 2);
        x.clearQueue(1);
        CHECKS.due("drainTime(1), cleared", x.drainTime(1), 0);
        toTime(x, 5000);
        CHECKS.due("drainTime(1), empty at 5000", x.drainTime(1), 0);
        CHECKS.due("drainTime(2), not empty at 5000", x.drainTime(2), NONE);
    }

    private static void drainTimes() {
        RateLimiter x = Checks.loaded("node a rate 1 burst 99;limit 2;");
        enqueue(x, 0, 1, 2);
        CHECKS.due("drainTime(0) of two", x.drainTime(0), 1);
        enqueue(x, 0, 1, 1);
        CHECKS.due("drainTime(0) of three", x.drainTime(0), 2);
        enqueue(x, 0, 1, 13);
        CHECKS.due("drainTime(0) of a full queue", x.drainTime(0), 8);
        RateLimiter y = Checks.loaded("node a rate 1 burst 99;");
        y.acquire(0, 99);
        enqueue(y, 0, 99, 5);
        y.enqueue(0, 5);
        CHECKS.due("drainTime(0), 500 ticks", y.drainTime(0), 500);
        y.enqueue(0, 1);
        CHECKS.due("drainTime(0), 501 ticks", y.drainTime(0), NONE);
        y.advance(1);
        CHECKS.due("drainTime(0), 500 ticks again", y.drainTime(0), 500);
        y.advance(499);
        CHECKS.due("drainTime(0), the last", y.drainTime(0), 1);
    }

    private static void neverDrained() {
        RateLimiter x = Checks.loaded("node a burst 9 rate 9;");
        x.enqueue(0, 10);
        CHECKS.due("drainTime(0), above the burst", x.drainTime(0), NONE);
        RateLimiter y = rich("limit 0;");
        y.enqueue(1, 1);
        CHECKS.due("drainTime(1), limit 0", y.drainTime(1), NONE);
    }

    private static void drainAtTheEnd() {
        RateLimiter x = Checks.loaded("node a rate 1 burst 10;");
        toTime(x, 4990);
        x.acquire(0, 10);
        x.enqueue(0, 10);
        CHECKS.due("drainTime(0) at 4990", x.drainTime(0), 10);
        x.clearQueue(0);
        x.advance(1);
        x.enqueue(0, 10);
        CHECKS.due("drainTime(0) at 4991", x.drainTime(0), 9);
        x.acquire(0, 1);
        CHECKS.due("drainTime(0), ten more ticks needed", x.drainTime(0), NONE);
        x.clearQueue(0);
        toTime(x, 4999);
        x.enqueue(0, 1);
        CHECKS.due("drainTime(0) at 4999", x.drainTime(0), 1);
        x.enqueue(0, 99);
        CHECKS.due("drainTime(0) at 4999", x.drainTime(0), NONE);
    }

    private static void drainedByAge() {
        RateLimiter x = Checks.loaded("node a burst 1 rate 0;age 499;");
        x.enqueue(0, 2);
        CHECKS.due("drainTime(0), age 499", x.drainTime(0), 500);
        RateLimiter y = Checks.loaded("node a burst 1 rate 0;age 500;");
        y.enqueue(0, 2);
        CHECKS.due("drainTime(0), age 500", y.drainTime(0), NONE);
        RateLimiter z = Checks.loaded("node a burst 1 rate 0;age 0;");
        z.enqueue(0, 2);
        CHECKS.due("drainTime(0), age 0", z.drainTime(0), 1);
    }

    private static void drainChangesNothing() {
        Twins.unchanged(CHECKS, "drainTime", x -> {
            for (int leaf = -1; leaf < 4; leaf++) {
                x.drainTime(leaf);
            }
        });
    }
}
