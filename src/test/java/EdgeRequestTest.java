/** The edges that section 3 and promises 26 to 33 of the document name: lenders, sending and waiting. */
final class EdgeRequestTest {
    private static final Checks CHECKS = new Checks("EdgeRequestTest");
    private static final int INVALID = RateLimiter.INVALID;
    private static final int NONE = RateLimiter.NONE;

    public static void main(String[] args) {
        CHECKS.test("the description: an object is used for 512 calls", EdgeRequestTest::lastOfManyCalls);
        CHECKS.test("section 3: headroom equal to the cost is enough, of every node", EdgeRequestTest::headroomEqual);
        CHECKS.test("section 3: tokens equal to the cost are enough, one less asks the parent", EdgeRequestTest::tokensEqual);
        CHECKS.test("section 3: tokens and credit together", EdgeRequestTest::tokensAndCredit);
        CHECKS.test("section 3: the root has no parent to ask", EdgeRequestTest::rootHasTooLittle);
        CHECKS.test("section 3: a leaf that may not borrow", () -> aloneAt(2, 49));
        CHECKS.test("section 3: an inner node that may not borrow", () -> aloneAt(1, 59));
        CHECKS.test("section 3: the root that may not borrow", () -> aloneAt(0, 69));
        CHECKS.test("section 3: a node that may not borrow may lend", EdgeRequestTest::aloneLends);
        CHECKS.test("section 3: the headroom becomes 0, but not less", EdgeRequestTest::headroomToZero);
        CHECKS.test("section 3: the cost is less than the lender's tokens", () -> pays(9, 1, 5));
        CHECKS.test("section 3: the cost is equal to the lender's tokens", () -> pays(10, 0, 5));
        CHECKS.test("section 3: the cost is the lender's tokens and one of credit", () -> pays(11, 0, 4));
        CHECKS.test("section 3: the cost is all of the lender's tokens and credit", () -> pays(15, 0, 0));
        CHECKS.test("section 3: tokens above the lender, more than the cost", () -> above(9, 1));
        CHECKS.test("section 3: tokens above the lender, equal to the cost", () -> above(10, 0));
        CHECKS.test("section 3: tokens above the lender, one less than the cost", () -> above(11, 0));
        CHECKS.test("section 3: nodes below the lender pay nothing", EdgeRequestTest::belowPaysNothing);
        CHECKS.test("section 3: nothing is borrowed if the lender is the leaf itself", EdgeRequestTest::ownTokensAreNotBorrowed);
        CHECKS.test("promise 26: lender, no leaf", () -> Wrong.leaves(CHECKS, "lender", (x, leaf) -> x.lender(leaf, 1)));
        CHECKS.test("promise 26: lender, costs 1 to 99", () -> Wrong.costs(CHECKS, "lender", (x, cost) -> x.lender(1, cost)));
        CHECKS.test("promise 26: lender of the costs 1 and 99", EdgeRequestTest::lenderOfLeastAndGreatest);
        CHECKS.test("promise 26: NONE if there is none, which changes nothing", EdgeRequestTest::noLender);
        CHECKS.test("promise 27: greatestCost, no leaf", () -> Wrong.leaves(CHECKS, "greatestCost", RateLimiter::greatestCost));
        CHECKS.test("promise 27: at most 99", EdgeRequestTest::greatestCostAtMost99);
        CHECKS.test("promise 27: 0 if there is none", EdgeRequestTest::greatestCostZero);
        CHECKS.test("promise 28: acquire, no leaf", () -> Wrong.leaves(CHECKS, "acquire", (x, leaf) -> x.acquire(leaf, 1)));
        CHECKS.test("promise 28: acquire, costs 1 to 99", () -> Wrong.costs(CHECKS, "acquire", (x, cost) -> x.acquire(1, cost)));
        CHECKS.test("promise 28: acquire of the costs 1 and 99", EdgeRequestTest::acquireLeastAndGreatest);
        CHECKS.test("promise 28: whether the queue is empty or not, or full", EdgeRequestTest::acquirePassesQueue);
        CHECKS.test("promise 28: distances 0 to 11", EdgeRequestTest::distances);
        CHECKS.test("promise 28: nothing changes if there is no lender", EdgeRequestTest::acquireRefused);
        CHECKS.test("promise 28: nothing changes if it is INVALID", EdgeRequestTest::acquireInvalid);
        CHECKS.test("promise 29: enqueue, no leaf", () -> Wrong.leaves(CHECKS, "enqueue", (x, leaf) -> x.enqueue(leaf, 1)));
        CHECKS.test("promise 29: enqueue, costs 1 to 99", () -> Wrong.costs(CHECKS, "enqueue", (x, cost) -> x.enqueue(1, cost)));
        CHECKS.test("promise 29: enqueue of the costs 1 and 99", EdgeRequestTest::enqueueLeastAndGreatest);
        CHECKS.test("promise 29: the 16th request has room, the 17th has none", EdgeRequestTest::fullQueue);
        CHECKS.test("promise 29: NONE counts as dropped and gets no number", EdgeRequestTest::fullQueueDrops);
        CHECKS.test("promise 29: a queue that was full has room again", EdgeRequestTest::roomAgain);
        CHECKS.test("promise 29: nothing changes if it is INVALID, of a full queue too", EdgeRequestTest::enqueueInvalid);
        CHECKS.test("promise 30: waitTime, no leaf", () -> Wrong.leaves(CHECKS, "waitTime", (x, leaf) -> x.waitTime(leaf, 1)));
        CHECKS.test("promise 30: waitTime, costs 1 to 99", () -> Wrong.costs(CHECKS, "waitTime", (x, cost) -> x.waitTime(1, cost)));
        CHECKS.test("promise 30: 0 if it could be sent now, 1 if one token is missing", EdgeRequestTest::waitsZeroAndOne);
        CHECKS.test("promise 30: the longest waits", EdgeRequestTest::longestWait);
        CHECKS.test("promise 30: NONE if the tokens never suffice", EdgeRequestTest::neverTokens);
        CHECKS.test("promise 30: NONE if the headroom never suffices", EdgeRequestTest::neverHeadroom);
        CHECKS.test("promise 30: the later of headroom and tokens", EdgeRequestTest::laterOfBoth);
        CHECKS.test("promise 30: the earliest of those that may be asked", EdgeRequestTest::earliestLender);
        CHECKS.test("promise 30: credit that grows, and a full one", EdgeRequestTest::waitsForCredit);
        CHECKS.test("promise 30: queues and timed changes are not looked at", EdgeRequestTest::waitLooksAtNothing);
        CHECKS.test("promise 30: ticks beyond the time 5000 count too", EdgeRequestTest::waitAtTheEnd);
        CHECKS.test("promise 30: waitTime changes nothing", EdgeRequestTest::waitChangesNothing);
        CHECKS.test("promise 31: repeats, no leaf", () -> Wrong.leaves(CHECKS, "repeats", (x, leaf) -> x.repeats(leaf, 1)));
        CHECKS.test("promise 31: repeats, costs 1 to 99", () -> Wrong.costs(CHECKS, "repeats", (x, cost) -> x.repeats(1, cost)));
        CHECKS.test("promise 31: 0, 1 and the most, 999", EdgeRequestTest::repeatsEdges);
        CHECKS.test("promise 31: each one takes from all that it would take from", EdgeRequestTest::repeatsTake);
        CHECKS.test("promise 31: nothing changes", EdgeRequestTest::repeatsChangeNothing);
        CHECKS.test("promise 32: refusal, no leaf", () -> Wrong.leaves(CHECKS, "refusal", (x, leaf) -> x.refusal(leaf, 1)));
        CHECKS.test("promise 32: refusal, costs 1 to 99", () -> Wrong.costs(CHECKS, "refusal", (x, cost) -> x.refusal(1, cost)));
        CHECKS.test("promise 32: 0, 1 and 2 at their borders", EdgeRequestTest::refusals);
        CHECKS.test("promise 32: 1 if both are too small", EdgeRequestTest::refusalOfBoth);
        CHECKS.test("promise 33: blockingNode, no leaf", () -> Wrong.leaves(CHECKS, "blockingNode", (x, leaf) -> x.blockingNode(leaf, 1)));
        CHECKS.test("promise 33: blockingNode, costs 1 to 99", () -> Wrong.costs(CHECKS, "blockingNode", (x, cost) -> x.blockingNode(1, cost)));
        CHECKS.test("promise 33: the node nearest to the leaf, of several", EdgeRequestTest::nearestBlocks);
        CHECKS.test("promise 33: NONE if there is none, also if tokens are missing", EdgeRequestTest::noneBlocks);
        CHECKS.finish();
    }

    private static void account(RateLimiter x, int node, int tokens, int credit, int headroom) {
        CHECKS.due("tokens(" + node + ")", x.tokens(node), tokens);
        CHECKS.due("credit(" + node + ")", x.credit(node), credit);
        CHECKS.due("headroom(" + node + ")", x.headroom(node), headroom);
    }

    /** Tokens: root 69, inner node 59, leaf 49. All headroom is 99, and no rate adds anything any more. */
    private static RateLimiter steps(int alone) {
        String[] text = {"node a rate 30 ceiling 99 burst 99", "node b in a rate 20 ceiling 99 burst 99",
            "node c in b rate 10 ceiling 99 burst 99"};
        StringBuilder all = new StringBuilder();
        for (int node = 0; node < 3; node++) {
            all.append(text[node]).append(node == alone ? " alone;" : ";");
        }
        RateLimiter x = Checks.loaded(all.toString());
        x.acquire(2, 60);
        x.advance(1);
        for (int node = 0; node < 3; node++) {
            x.setRate(node, 0);
        }
        return x;
    }

    /** The setup takes four calls of the 512. */
    private static void lastOfManyCalls() {
        RateLimiter x = Checks.loaded("node a rate 0 burst 1;");
        for (int number = 0; number < 169; number++) {
            CHECKS.due("enqueue(0, 2)", x.enqueue(0, 2), number);
            CHECKS.due("requestAt(0, 0)", x.requestAt(0, 0), number);
            CHECKS.due("clearQueue(0)", x.clearQueue(0), 1);
        }
        CHECKS.due("enqueue(0, 2), call 512", x.enqueue(0, 2), 169);
        RateLimiter y = Checks.loaded("node a rate 99 ceiling 999 burst 999;");
        for (int sent = 1; sent <= 253; sent++) {
            CHECKS.due("acquire(0, 99)", y.acquire(0, 99), 0);
            y.advance(1);
        }
        CHECKS.due("sentCost(0), call 511", y.sentCost(0), 253 * 99);
    }

    // ---- section 3

    private static void headroomEqual() {
        for (int small = 0; small < 3; small++) {
            StringBuilder text = new StringBuilder("node a burst 50;node b in a burst 50;node c in b burst 50;");
            int at = text.indexOf("burst", text.indexOf("node " + (char) ('a' + small)));
            text.replace(at + 6, at + 8, "20");
            RateLimiter x = Checks.loaded(text.toString());
            CHECKS.due("lender(2, 20), small " + small, x.lender(2, 20), 2);
            CHECKS.due("lender(2, 21), small " + small, x.lender(2, 21), NONE);
            CHECKS.due("blockingNode(2, 20), small " + small, x.blockingNode(2, 20), NONE);
            CHECKS.due("blockingNode(2, 21), small " + small, x.blockingNode(2, 21), small);
            CHECKS.due("acquire(2, 21), small " + small, x.acquire(2, 21), NONE);
            CHECKS.due("acquire(2, 20), small " + small, x.acquire(2, 20), 0);
            CHECKS.due("acquire(2, 1), small " + small, x.acquire(2, 1), NONE);
        }
    }

    private static void tokensEqual() {
        RateLimiter x = steps(NONE);
        int[][] due = {{1, 2}, {48, 2}, {49, 2}, {50, 1}, {58, 1}, {59, 1}, {60, 0}, {68, 0}, {69, 0}, {70, NONE}, {99, NONE}};
        for (int[] each : due) {
            CHECKS.due("lender(2, " + each[0] + ")", x.lender(2, each[0]), each[1]);
        }
        CHECKS.due("greatestCost(2)", x.greatestCost(2), 69);
    }

    private static void tokensAndCredit() {
        RateLimiter x = Checks.loaded("node a rate 3 ceiling 99 burst 20 credit 4;node b in a rate 0 ceiling 99 burst 20;");
        x.advance(2);
        account(x, 0, 20, 4, 20);
        x.setRate(0, 0);
        x.acquire(1, 17);
        x.advance(1);
        // The root has 3 tokens and 4 of credit, the leaf has 3 tokens.
        CHECKS.due("lender(1, 3)", x.lender(1, 3), 1);
        CHECKS.due("lender(1, 4)", x.lender(1, 4), 0);
        CHECKS.due("lender(1, 7)", x.lender(1, 7), 0);
        CHECKS.due("lender(1, 8)", x.lender(1, 8), NONE);
        CHECKS.due("acquire(1, 7)", x.acquire(1, 7), 1);
        account(x, 0, 0, 0, 13);
        CHECKS.due("lender(1, 3)", x.lender(1, 3), 1);
        RateLimiter y = Checks.loaded("node a rate 5 ceiling 99 burst 5 credit 5;");
        y.advance(1);
        y.acquire(0, 5);
        y.setRate(0, 0);
        y.advance(1);
        account(y, 0, 0, 5, 5);
        CHECKS.due("lender(0, 5), credit alone", y.lender(0, 5), 0);
        CHECKS.due("acquire(0, 5), credit alone", y.acquire(0, 5), 0);
        account(y, 0, 0, 0, 0);
    }

    private static void rootHasTooLittle() {
        RateLimiter x = Checks.loaded("node a rate 0 ceiling 99;");
        x.acquire(0, 4);
        x.advance(1);
        CHECKS.due("lender(0, 6)", x.lender(0, 6), 0);
        CHECKS.due("lender(0, 7)", x.lender(0, 7), NONE);
        // The leaf's tokens count although the root has none.
        RateLimiter y = Checks.loaded("node a rate 0 ceiling 99;node b in a rate 99 ceiling 99;");
        y.acquire(1, 10);
        y.advance(1);
        account(y, 0, 0, 0, 10);
        CHECKS.due("lender(1, 10)", y.lender(1, 10), 1);
        CHECKS.due("acquire(1, 10)", y.acquire(1, 10), 0);
        account(y, 0, 0, 0, 0);
    }

    private static void aloneAt(int alone, int greatest) {
        RateLimiter x = steps(alone);
        for (int cost = 1; cost <= 99; cost++) {
            int lender = cost <= 49 ? 2 : cost <= 59 ? 1 : 0;
            CHECKS.due("lender(2, " + cost + ")", x.lender(2, cost), cost <= greatest ? lender : NONE);
        }
        CHECKS.due("greatestCost(2)", x.greatestCost(2), greatest);
        CHECKS.due("refusal(2, greatest + 1)", x.refusal(2, greatest + 1), 2);
    }

    private static void aloneLends() {
        RateLimiter x = steps(1);
        CHECKS.due("acquire(2, 59)", x.acquire(2, 59), 1);
        CHECKS.due("lentCost(1)", x.lentCost(1), 59);
        account(x, 0, 10, 0, 40);
        account(x, 1, 0, 0, 40);
        account(x, 2, 49, 0, 40);
    }

    private static void headroomToZero() {
        RateLimiter x = Checks.loaded("node a ceiling 0 burst 12;node b in a ceiling 0 burst 11;");
        CHECKS.due("acquire(1, 10)", x.acquire(1, 10), 0);
        account(x, 0, 2, 0, 2);
        account(x, 1, 1, 0, 1);
        CHECKS.due("acquire(1, 2)", x.acquire(1, 2), NONE);
        CHECKS.due("acquire(1, 1)", x.acquire(1, 1), 0);
        account(x, 0, 1, 0, 1);
        account(x, 1, 0, 0, 0);
        CHECKS.due("acquire(1, 1)", x.acquire(1, 1), NONE);
    }

    /** A lender with 10 tokens, 5 of credit and 20 of headroom. */
    private static void pays(int cost, int tokens, int credit) {
        RateLimiter x = Checks.loaded("node a rate 5 ceiling 99 burst 20 credit 5;");
        x.advance(1);
        x.setRate(0, 0);
        x.acquire(0, 10);
        x.advance(1);
        account(x, 0, 10, 5, 20);
        CHECKS.due("acquire(0, " + cost + ")", x.acquire(0, cost), 0);
        account(x, 0, tokens, credit, 20 - cost);
    }

    /** A root with 10 tokens, 5 of credit and 20 of headroom, above a leaf that pays by itself. */
    private static void above(int cost, int tokens) {
        RateLimiter x = Checks.loaded("node a rate 5 ceiling 99 burst 20 credit 5;node b in a rate 99 ceiling 99 burst 20;");
        x.advance(1);
        x.setRate(0, 0);
        x.acquire(1, 10);
        x.advance(1);
        account(x, 0, 10, 5, 20);
        account(x, 1, 20, 0, 20);
        CHECKS.due("acquire(1, " + cost + ")", x.acquire(1, cost), 0);
        account(x, 0, tokens, 5, 20 - cost);
        account(x, 1, 20 - cost, 0, 20 - cost);
    }

    private static void belowPaysNothing() {
        RateLimiter x = steps(NONE);
        CHECKS.due("acquire(2, 60)", x.acquire(2, 60), 2);
        account(x, 0, 9, 0, 39);
        account(x, 1, 59, 0, 39);
        account(x, 2, 49, 0, 39);
        RateLimiter y = steps(NONE);
        CHECKS.due("acquire(2, 50)", y.acquire(2, 50), 1);
        account(y, 0, 19, 0, 49);
        account(y, 1, 9, 0, 49);
        account(y, 2, 49, 0, 49);
    }

    private static void ownTokensAreNotBorrowed() {
        RateLimiter x = steps(NONE);
        x.acquire(2, 49);
        CHECKS.due("borrowedCost(2)", x.borrowedCost(2), 0);
        for (int node = 0; node < 3; node++) {
            CHECKS.due("lentCost(" + node + ")", x.lentCost(node), 0);
        }
        RateLimiter y = steps(NONE);
        y.acquire(2, 50);
        CHECKS.due("borrowedCost(2)", y.borrowedCost(2), 50);
        CHECKS.due("lentCost(0)", y.lentCost(0), 0);
        CHECKS.due("lentCost(1)", y.lentCost(1), 50);
        CHECKS.due("lentCost(2)", y.lentCost(2), 0);
    }

    // ---- promises 26 to 29

    private static void lenderOfLeastAndGreatest() {
        RateLimiter x = Checks.loaded("node a burst 99;node b in a burst 99;node c in a burst 1;");
        CHECKS.due("lender(1, 1)", x.lender(1, 1), 1);
        CHECKS.due("lender(1, 99)", x.lender(1, 99), 1);
        CHECKS.due("lender(2, 1)", x.lender(2, 1), 2);
        CHECKS.due("lender(2, 2)", x.lender(2, 2), NONE);
        RateLimiter y = Checks.loaded(Wrong.twelve());
        CHECKS.due("lender(11, 1)", y.lender(11, 1), 11);
    }

    private static void noLender() {
        RateLimiter x = Checks.loaded("node a burst 98;");
        CHECKS.due("lender(0, 99)", x.lender(0, 99), NONE);
        Twins.unchanged(CHECKS, "lender and its like", y -> {
            for (int leaf = -1; leaf < 4; leaf++) {
                for (int cost : new int[] {0, 1, 9, 31, 99, 100}) {
                    y.lender(leaf, cost);
                    y.refusal(leaf, cost);
                    y.blockingNode(leaf, cost);
                }
                y.greatestCost(leaf);
            }
        });
    }

    private static void greatestCostAtMost99() {
        for (int burst : new int[] {98, 99, 100, 999}) {
            RateLimiter x = Checks.loaded("node a burst " + burst + ";");
            CHECKS.due("greatestCost(0) of burst " + burst, x.greatestCost(0), Math.min(burst, 99));
        }
        RateLimiter y = Checks.loaded("node a burst 999;node b in a burst 98;node c in a burst 999;");
        CHECKS.due("greatestCost(1)", y.greatestCost(1), 98);
        CHECKS.due("greatestCost(2)", y.greatestCost(2), 99);
    }

    private static void greatestCostZero() {
        RateLimiter x = Checks.loaded("node a rate 0 ceiling 5 burst 1;");
        CHECKS.due("greatestCost(0)", x.greatestCost(0), 1);
        x.acquire(0, 1);
        CHECKS.due("without headroom", x.greatestCost(0), 0);
        x.advance(1);
        CHECKS.due("without tokens", x.greatestCost(0), 0);
        x.setRate(0, 1);
        x.advance(1);
        CHECKS.due("with one token", x.greatestCost(0), 1);
    }

    private static void acquireLeastAndGreatest() {
        RateLimiter x = Checks.loaded("node a burst 100;");
        CHECKS.due("acquire(0, 99)", x.acquire(0, 99), 0);
        account(x, 0, 1, 0, 1);
        CHECKS.due("acquire(0, 1)", x.acquire(0, 1), 0);
        account(x, 0, 0, 0, 0);
        CHECKS.due("sentCost(0)", x.sentCost(0), 100);
        CHECKS.due("sentCount(0)", x.sentCount(0), 2);
    }

    private static void acquirePassesQueue() {
        RateLimiter x = Checks.loaded("node a burst 99;");
        CHECKS.due("with an empty queue", x.acquire(0, 2), 0);
        for (int i = 0; i < 16; i++) {
            x.enqueue(0, 1);
            CHECKS.due("with " + (i + 1) + " in the queue", x.acquire(0, 2), 0);
        }
        CHECKS.due("queueLength(0)", x.queueLength(0), 16);
        CHECKS.due("requestAt(0, 0)", x.requestAt(0, 0), 0);
        CHECKS.due("droppedCount(0)", x.droppedCount(0), 0);
        CHECKS.due("sentCost(0)", x.sentCost(0), 34);
    }

    private static void distances() {
        StringBuilder text = new StringBuilder("node a rate 0 ceiling 99 burst 99;");
        for (int i = 1; i < 12; i++) {
            text.append("node ").append((char) ('a' + i)).append(" in ").append((char) ('a' + i - 1));
            text.append(" rate 0 ceiling 99 burst 99;");
        }
        for (int lender = 0; lender < 12; lender++) {
            RateLimiter x = Checks.loaded(text.toString());
            x.acquire(11, 99);
            x.setRate(lender, 5);
            x.advance(1);
            CHECKS.due("acquire(11, 6)", x.acquire(11, 6), NONE);
            CHECKS.due("acquire(11, 5) paid by " + lender, x.acquire(11, 5), 11 - lender);
            CHECKS.due("loggedLender(0)", x.loggedLender(0), lender);
        }
    }

    private static void acquireRefused() {
        Twins.unchanged(CHECKS, "acquires without a lender", x -> {
            CHECKS.due("acquire(1, 99), headroom", x.acquire(1, 99), NONE);
            CHECKS.due("acquire(2, 9), tokens", x.acquire(2, 9), NONE);
        });
        RateLimiter x = Checks.loaded("node a burst 9;node b in a burst 12;");
        CHECKS.due("acquire(1, 10)", x.acquire(1, 10), NONE);
        account(x, 0, 9, 0, 9);
        account(x, 1, 12, 0, 12);
        CHECKS.due("logCount()", x.logCount(), 0);
        CHECKS.due("sentCount(1)", x.sentCount(1), 0);
    }

    private static void acquireInvalid() {
        Twins.unchanged(CHECKS, "invalid acquires", x -> {
            int[][] wrong = {{0, 1}, {-1, 1}, {3, 1}, {12, 1}, {1, 0}, {1, -1}, {1, 100}, {2, Integer.MAX_VALUE},
                {2, Integer.MIN_VALUE}, {Integer.MIN_VALUE, 1}, {Integer.MAX_VALUE, 1}};
            for (int[] each : wrong) {
                CHECKS.due("acquire(" + each[0] + ", " + each[1] + ")", x.acquire(each[0], each[1]), INVALID);
            }
        });
    }

    private static void enqueueLeastAndGreatest() {
        RateLimiter x = Checks.loaded("node a;");
        CHECKS.due("enqueue(0, 1)", x.enqueue(0, 1), 0);
        CHECKS.due("enqueue(0, 99)", x.enqueue(0, 99), 1);
        CHECKS.due("queuedCost(0)", x.queuedCost(0), 100);
    }

    private static RateLimiter full() {
        RateLimiter x = Checks.loaded("node a rate 9 burst 99;node b in a burst 9;node c in a burst 9;limit 1;");
        for (int i = 0; i < 16; i++) {
            CHECKS.due("enqueue(1, 9)", x.enqueue(1, 9), i);
            CHECKS.due("queueLength(1)", x.queueLength(1), i + 1);
        }
        return x;
    }

    private static void fullQueue() {
        RateLimiter x = full();
        CHECKS.due("enqueue(1, 9), the 17th", x.enqueue(1, 9), NONE);
        CHECKS.due("queueLength(1)", x.queueLength(1), 16);
        CHECKS.due("enqueue(1, 1), the 18th", x.enqueue(1, 1), NONE);
        CHECKS.due("requestAt(1, 15)", x.requestAt(1, 15), 15);
        CHECKS.due("requestAt(1, 16)", x.requestAt(1, 16), NONE);
        CHECKS.due("queuedCost(1)", x.queuedCost(1), 144);
    }

    private static void fullQueueDrops() {
        RateLimiter x = full();
        CHECKS.due("droppedCount(1)", x.droppedCount(1), 0);
        x.enqueue(1, 9);
        CHECKS.due("droppedCount(1)", x.droppedCount(1), 1);
        x.enqueue(1, 9);
        CHECKS.due("droppedCount(1)", x.droppedCount(1), 2);
        CHECKS.due("droppedCount(2)", x.droppedCount(2), 0);
        CHECKS.due("enqueue(2, 9)", x.enqueue(2, 9), 16);
        CHECKS.due("enqueue(2, 9)", x.enqueue(2, 9), 17);
    }

    private static void roomAgain() {
        RateLimiter x = full();
        x.enqueue(1, 9);
        CHECKS.due("advance(1)", x.advance(1), 1);
        CHECKS.due("enqueue(1, 9)", x.enqueue(1, 9), 16);
        CHECKS.due("requestAt(1, 15)", x.requestAt(1, 15), 16);
        CHECKS.due("enqueue(1, 9)", x.enqueue(1, 9), NONE);
        x.clearQueue(1);
        CHECKS.due("enqueue(1, 9)", x.enqueue(1, 9), 17);
        CHECKS.due("requestAt(1, 0)", x.requestAt(1, 0), 17);
    }

    private static void enqueueInvalid() {
        Twins.unchanged(CHECKS, "invalid enqueues", x -> {
            int[][] wrong = {{0, 1}, {-1, 1}, {3, 1}, {12, 1}, {1, 0}, {1, -1}, {1, 100}, {2, Integer.MAX_VALUE},
                {2, Integer.MIN_VALUE}, {Integer.MIN_VALUE, 1}, {Integer.MAX_VALUE, 1}};
            for (int[] each : wrong) {
                CHECKS.due("enqueue(" + each[0] + ", " + each[1] + ")", x.enqueue(each[0], each[1]), INVALID);
            }
        });
        RateLimiter y = full();
        CHECKS.due("enqueue(1, 0) of a full queue", y.enqueue(1, 0), INVALID);
        CHECKS.due("enqueue(1, 100) of a full queue", y.enqueue(1, 100), INVALID);
        CHECKS.due("droppedCount(1)", y.droppedCount(1), 0);
    }

    // ---- promise 30

    private static void waitsZeroAndOne() {
        RateLimiter x = Checks.loaded("node a rate 1 ceiling 99 burst 99;");
        CHECKS.due("waitTime(0, 99)", x.waitTime(0, 99), 0);
        CHECKS.due("waitTime(0, 1)", x.waitTime(0, 1), 0);
        x.acquire(0, 40);
        x.advance(1);
        // 60 tokens and full headroom.
        CHECKS.due("waitTime(0, 60)", x.waitTime(0, 60), 0);
        CHECKS.due("waitTime(0, 61)", x.waitTime(0, 61), 1);
        CHECKS.due("waitTime(0, 62)", x.waitTime(0, 62), 2);
        x.setRate(0, 2);
        CHECKS.due("waitTime(0, 61), rate 2", x.waitTime(0, 61), 1);
        CHECKS.due("waitTime(0, 62), rate 2", x.waitTime(0, 62), 1);
        CHECKS.due("waitTime(0, 63), rate 2", x.waitTime(0, 63), 2);
        RateLimiter y = Checks.loaded("node a rate 99 ceiling 1 burst 99;");
        y.acquire(0, 40);
        // 59 of headroom; the tokens are full after a tick.
        CHECKS.due("waitTime(0, 59)", y.waitTime(0, 59), 0);
        CHECKS.due("waitTime(0, 60)", y.waitTime(0, 60), 1);
        CHECKS.due("waitTime(0, 61)", y.waitTime(0, 61), 2);
        y.setCeiling(0, 2);
        CHECKS.due("waitTime(0, 61), ceiling 2", y.waitTime(0, 61), 1);
        CHECKS.due("waitTime(0, 62), ceiling 2", y.waitTime(0, 62), 2);
    }

    private static void longestWait() {
        RateLimiter x = Checks.loaded("node a rate 1 ceiling 999 burst 99;");
        x.acquire(0, 99);
        CHECKS.due("waitTime(0, 99) for tokens", x.waitTime(0, 99), 99);
        CHECKS.due("waitTime(0, 1) for tokens", x.waitTime(0, 1), 1);
        RateLimiter y = Checks.loaded("node a rate 99 ceiling 1 burst 99;");
        y.acquire(0, 99);
        CHECKS.due("waitTime(0, 99) for headroom", y.waitTime(0, 99), 99);
        CHECKS.due("waitTime(0, 1) for headroom", y.waitTime(0, 1), 1);
        y.advance(98);
        CHECKS.due("waitTime(0, 99) after 98 ticks", y.waitTime(0, 99), 1);
        y.advance(1);
        CHECKS.due("waitTime(0, 99) after 99 ticks", y.waitTime(0, 99), 0);
    }

    private static void neverTokens() {
        RateLimiter x = Checks.loaded("node a rate 0 ceiling 99 burst 50;node b in a rate 0 ceiling 99 burst 50;");
        x.acquire(1, 10);
        CHECKS.due("waitTime(1, 40)", x.waitTime(1, 40), 0);
        CHECKS.due("waitTime(1, 41)", x.waitTime(1, 41), NONE);
        x.advance(1);
        CHECKS.due("waitTime(1, 40)", x.waitTime(1, 40), 0);
        CHECKS.due("waitTime(1, 41)", x.waitTime(1, 41), NONE);
        x.setRate(0, 1);
        CHECKS.due("waitTime(1, 41), rate 1 above", x.waitTime(1, 41), 1);
        RateLimiter y = Checks.loaded("node a rate 9 ceiling 99 burst 50;node b in a rate 0 ceiling 99 burst 50 alone;");
        y.acquire(1, 10);
        CHECKS.due("waitTime(1, 41), alone", y.waitTime(1, 41), NONE);
    }

    private static void neverHeadroom() {
        RateLimiter x = Checks.loaded("node a rate 9 ceiling 9 burst 50 credit 99;node b in a rate 9 ceiling 9 burst 60 credit 99;");
        CHECKS.due("waitTime(1, 50), the root's burst", x.waitTime(1, 50), 0);
        CHECKS.due("waitTime(1, 51), above the root's burst", x.waitTime(1, 51), NONE);
        x.acquire(1, 1);
        CHECKS.due("waitTime(1, 50)", x.waitTime(1, 50), 1);
        x.setCeiling(0, 0);
        CHECKS.due("waitTime(1, 49), ceiling 0", x.waitTime(1, 49), 0);
        CHECKS.due("waitTime(1, 50), ceiling 0", x.waitTime(1, 50), NONE);
        RateLimiter y = Checks.loaded("node a rate 9 ceiling 9 burst 99;node b in a rate 9 ceiling 9 burst 50 credit 99;");
        y.advance(20);
        CHECKS.due("waitTime(1, 51), above the leaf's burst", y.waitTime(1, 51), NONE);
    }

    private static void laterOfBoth() {
        RateLimiter x = Checks.loaded("node a rate 99 ceiling 5 burst 99;node b in a rate 4 ceiling 6 burst 99;");
        x.acquire(1, 99);
        // Headroom by 5 at the root, by 6 at the leaf; the root's tokens are full after a tick.
        CHECKS.due("waitTime(1, 4)", x.waitTime(1, 4), 1);
        CHECKS.due("waitTime(1, 5)", x.waitTime(1, 5), 1);
        CHECKS.due("waitTime(1, 6)", x.waitTime(1, 6), 2);
        x.setCeiling(0, 7);
        CHECKS.due("waitTime(1, 6)", x.waitTime(1, 6), 1);
        CHECKS.due("waitTime(1, 7)", x.waitTime(1, 7), 2);
        x.setRate(0, 0);
        CHECKS.due("waitTime(1, 7), the leaf's tokens", x.waitTime(1, 7), 2);
        CHECKS.due("waitTime(1, 9), the leaf's tokens", x.waitTime(1, 9), 3);
    }

    private static void earliestLender() {
        RateLimiter x = Checks.loaded("node a rate 7 ceiling 99 burst 99;node b in a rate 5 ceiling 99 burst 99;"
                + "node c in b rate 3 ceiling 99 burst 99;");
        x.acquire(2, 99);
        CHECKS.due("waitTime(2, 14), the root first", x.waitTime(2, 14), 2);
        CHECKS.due("waitTime(2, 15)", x.waitTime(2, 15), 3);
        x.setRate(1, 15);
        CHECKS.due("waitTime(2, 15), the inner node first", x.waitTime(2, 15), 1);
        x.setRate(2, 16);
        CHECKS.due("waitTime(2, 16), the leaf first", x.waitTime(2, 16), 1);
        RateLimiter y = Checks.loaded("node a rate 7 ceiling 99 burst 99;node b in a rate 5 ceiling 99 burst 99 alone;"
                + "node c in b rate 3 ceiling 99 burst 99;");
        y.acquire(2, 99);
        CHECKS.due("waitTime(2, 14), the root is not asked", y.waitTime(2, 14), 3);
        RateLimiter z = Checks.loaded("node a rate 9 ceiling 99 burst 99 alone;node b in a rate 1 ceiling 99 burst 99;");
        z.acquire(1, 99);
        CHECKS.due("waitTime(1, 99)", z.waitTime(1, 99), 11);
    }

    private static void waitsForCredit() {
        RateLimiter x = Checks.loaded("node a rate 4 ceiling 99 burst 40 credit 20;");
        x.advance(3);
        account(x, 0, 40, 12, 40);
        x.acquire(0, 30);
        x.advance(1);
        account(x, 0, 14, 12, 40);
        CHECKS.due("waitTime(0, 26)", x.waitTime(0, 26), 0);
        CHECKS.due("waitTime(0, 27)", x.waitTime(0, 27), 1);
        CHECKS.due("waitTime(0, 30)", x.waitTime(0, 30), 1);
        CHECKS.due("waitTime(0, 31)", x.waitTime(0, 31), 2);
        CHECKS.due("waitTime(0, 40)", x.waitTime(0, 40), 4);
        // A lender whose burst is less than the cost can't have the headroom, so its credit is of no use here.
        RateLimiter y = Checks.loaded("node a rate 4 ceiling 99 burst 10 credit 99;");
        y.advance(50);
        CHECKS.due("waitTime(0, 10)", y.waitTime(0, 10), 0);
        CHECKS.due("waitTime(0, 11)", y.waitTime(0, 11), NONE);
    }

    private static void waitLooksAtNothing() {
        RateLimiter x = Checks.loaded("node a rate 5 burst 20;at 1 a rate 0;at 1 a ceiling 0;");
        x.acquire(0, 20);
        x.enqueue(0, 5);
        x.enqueue(0, 5);
        CHECKS.due("waitTime(0, 20)", x.waitTime(0, 20), 4);
        RateLimiter y = Checks.loaded("node a rate 0 ceiling 0 burst 20;at 1 a rate 9;at 1 a ceiling 9;");
        y.acquire(0, 20);
        CHECKS.due("waitTime(0, 1)", y.waitTime(0, 1), NONE);
    }

    private static void waitAtTheEnd() {
        RateLimiter x = Checks.loaded("node a rate 1 burst 20;");
        for (int i = 0; i < 10; i++) {
            x.advance(500);
        }
        x.acquire(0, 20);
        CHECKS.due("time()", x.time(), 5000);
        CHECKS.due("waitTime(0, 1)", x.waitTime(0, 1), 1);
        CHECKS.due("waitTime(0, 20)", x.waitTime(0, 20), 20);
    }

    private static void waitChangesNothing() {
        Twins.unchanged(CHECKS, "waitTime", x -> {
            for (int leaf = -1; leaf < 4; leaf++) {
                for (int cost : new int[] {0, 1, 9, 30, 31, 99, 100}) {
                    x.waitTime(leaf, cost);
                }
            }
        });
    }

    // ---- promises 31 to 33

    private static void repeatsEdges() {
        for (int burst : new int[] {1, 2, 98, 99, 100, 998, 999}) {
            RateLimiter x = Checks.loaded("node a rate 99 credit 999 burst " + burst + ";");
            x.advance(500);
            CHECKS.due("repeats(0, 1) of burst " + burst, x.repeats(0, 1), burst);
            CHECKS.due("repeats(0, 99) of burst " + burst, x.repeats(0, 99), burst / 99);
            CHECKS.due("repeats(0, 2) of burst " + burst, x.repeats(0, 2), burst / 2);
        }
        RateLimiter y = Checks.loaded("node a burst 7;");
        CHECKS.due("repeats(0, 7)", y.repeats(0, 7), 1);
        CHECKS.due("repeats(0, 8)", y.repeats(0, 8), 0);
        y.acquire(0, 7);
        CHECKS.due("repeats(0, 1) of nothing", y.repeats(0, 1), 0);
    }

    private static void repeatsTake() {
        RateLimiter x = steps(NONE);
        // The leaf pays 49 of 7 each; the inner node has 59 - 49 = 10 left and pays once; the root has 69 - 56 = 13, once.
        CHECKS.due("repeats(2, 7)", x.repeats(2, 7), 9);
        CHECKS.due("repeats(2, 49)", x.repeats(2, 49), 1);
        CHECKS.due("repeats(2, 50)", x.repeats(2, 50), 1);
        CHECKS.due("repeats(2, 69)", x.repeats(2, 69), 1);
        CHECKS.due("repeats(2, 70)", x.repeats(2, 70), 0);
        CHECKS.due("repeats(2, 1)", x.repeats(2, 1), 69);
        CHECKS.due("repeats(2, 1), leaf alone", steps(2).repeats(2, 1), 49);
        CHECKS.due("repeats(2, 1), inner node alone", steps(1).repeats(2, 1), 59);
    }

    private static void repeatsChangeNothing() {
        Twins.unchanged(CHECKS, "repeats", x -> {
            for (int leaf = -1; leaf < 4; leaf++) {
                for (int cost : new int[] {0, 1, 3, 9, 31, 99, 100}) {
                    x.repeats(leaf, cost);
                }
            }
        });
        RateLimiter y = Checks.loaded("node a burst 999;");
        for (int i = 0; i < 3; i++) {
            CHECKS.due("repeats(0, 1)", y.repeats(0, 1), 999);
        }
        account(y, 0, 999, 0, 999);
        CHECKS.due("logCount()", y.logCount(), 0);
        CHECKS.due("sentCount(0)", y.sentCount(0), 0);
    }

    private static void refusals() {
        RateLimiter x = steps(NONE);
        CHECKS.due("refusal(2, 1)", x.refusal(2, 1), 0);
        CHECKS.due("refusal(2, 69)", x.refusal(2, 69), 0);
        CHECKS.due("refusal(2, 70)", x.refusal(2, 70), 2);
        CHECKS.due("refusal(2, 99)", x.refusal(2, 99), 2);
        RateLimiter y = Checks.loaded("node a burst 20;node b in a burst 10;node c in a burst 30;");
        CHECKS.due("refusal(1, 10)", y.refusal(1, 10), 0);
        CHECKS.due("refusal(1, 11), the leaf's headroom", y.refusal(1, 11), 1);
        CHECKS.due("refusal(2, 20)", y.refusal(2, 20), 0);
        CHECKS.due("refusal(2, 21), the root's headroom", y.refusal(2, 21), 1);
        CHECKS.due("refusal(2, 99)", y.refusal(2, 99), 1);
        RateLimiter z = steps(2);
        CHECKS.due("refusal(2, 49), alone", z.refusal(2, 49), 0);
        CHECKS.due("refusal(2, 50), alone", z.refusal(2, 50), 2);
    }

    private static void refusalOfBoth() {
        RateLimiter x = Checks.loaded("node a burst 10 ceiling 0 rate 0;");
        x.acquire(0, 4);
        CHECKS.due("refusal(0, 6)", x.refusal(0, 6), 0);
        CHECKS.due("refusal(0, 7)", x.refusal(0, 7), 1);
    }

    private static void nearestBlocks() {
        RateLimiter x = Checks.loaded("node a burst 10;node b in a burst 10;node c in b burst 10;");
        CHECKS.due("blockingNode(2, 11), all", x.blockingNode(2, 11), 2);
        RateLimiter y = Checks.loaded("node a burst 10;node b in a burst 10;node c in b burst 20;");
        CHECKS.due("blockingNode(2, 11), two", y.blockingNode(2, 11), 1);
        CHECKS.due("blockingNode(2, 21), all", y.blockingNode(2, 21), 2);
        RateLimiter z = Checks.loaded("node a burst 10;node b in a burst 20;node c in b burst 20;");
        CHECKS.due("blockingNode(2, 11), one", z.blockingNode(2, 11), 0);
        CHECKS.due("blockingNode(2, 10), none", z.blockingNode(2, 10), NONE);
    }

    private static void noneBlocks() {
        RateLimiter x = steps(2);
        CHECKS.due("blockingNode(2, 99)", x.blockingNode(2, 99), NONE);
        CHECKS.due("lender(2, 99)", x.lender(2, 99), NONE);
        RateLimiter y = Checks.loaded("node a burst 99;");
        CHECKS.due("blockingNode(0, 99)", y.blockingNode(0, 99), NONE);
        y.acquire(0, 1);
        CHECKS.due("blockingNode(0, 99)", y.blockingNode(0, 99), 0);
        CHECKS.due("blockingNode(0, 98)", y.blockingNode(0, 98), NONE);
        y.acquire(0, 98);
        CHECKS.due("blockingNode(0, 1)", y.blockingNode(0, 1), 0);
    }
}
