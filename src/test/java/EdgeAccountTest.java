/** The edges that section 2 and promises 22 to 25 of the document name: the accounts and what a tick does to them. */
final class EdgeAccountTest {
    private static final Checks CHECKS = new Checks("EdgeAccountTest");
    private static final int INVALID = RateLimiter.INVALID;

    public static void main(String[] args) {
        CHECKS.test("section 2: tokens and headroom equal the burst, 1 and 999 too", EdgeAccountTest::afterLoad);
        CHECKS.test("section 2: the time is 0 after each load", EdgeAccountTest::timeAfterLoad);
        CHECKS.test("section 2: the tokens reach the burst, no excess", () -> tokens(3, 3, 10, 0));
        CHECKS.test("section 2: the tokens stay one below the burst", () -> tokens(3, 2, 9, 0));
        CHECKS.test("section 2: the tokens exceed the burst by one, which is credit", () -> tokens(3, 4, 10, 1));
        CHECKS.test("section 2: the rate 0 adds nothing", () -> tokens(3, 0, 7, 0));
        CHECKS.test("section 2: the greatest rate", () -> tokens(10, 99, 10, 89));
        CHECKS.test("section 2: the credit reaches its limit", () -> credit(5, 5));
        CHECKS.test("section 2: the credit exceeds its limit by one", () -> credit(6, 5));
        CHECKS.test("section 2: the credit stays one below its limit", () -> credit(4, 4));
        CHECKS.test("section 2: the credit limit 0", EdgeAccountTest::noCredit);
        CHECKS.test("section 2: the credit limit 999", EdgeAccountTest::greatestCredit);
        CHECKS.test("section 2: a full credit stays while the tokens are not full", EdgeAccountTest::creditStays);
        CHECKS.test("section 2: the headroom reaches the burst", () -> headroom(4, 10));
        CHECKS.test("section 2: the headroom stays one below the burst", () -> headroom(3, 9));
        CHECKS.test("section 2: the headroom does not exceed the burst", () -> headroom(5, 10));
        CHECKS.test("section 2: the ceiling 0 adds nothing", () -> headroom(0, 6));
        CHECKS.test("section 2: the ceiling 999", () -> headroom(999, 10));
        CHECKS.test("section 2: the least burst", EdgeAccountTest::leastBurst);
        CHECKS.test("section 2: the greatest burst", EdgeAccountTest::greatestBurst);
        CHECKS.test("section 2: each node for itself, the root and the last too", EdgeAccountTest::allNodes);
        CHECKS.test("section 2, step 1: changes of the time that begins, before the rates are added", EdgeAccountTest::changesFirst);
        CHECKS.test("section 2, step 1: at the times 1 and 5000", EdgeAccountTest::changesAtTheEnds);
        CHECKS.test("section 2, step 1: in the order of the text", EdgeAccountTest::changesInOrder);
        CHECKS.test("section 2, steps 2 and 3: a refill comes before the drop", EdgeAccountTest::refillBeforeDrop);
        CHECKS.test("section 2, steps 3 and 4: what is dropped is not dispatched", EdgeAccountTest::dropBeforeDispatch);
        CHECKS.test("section 2, steps 2 and 4: what a tick brings is sent in it", EdgeAccountTest::refillBeforeDispatch);
        CHECKS.test("promise 22: time of a new object and without nodes", EdgeAccountTest::timeWithoutNodes);
        CHECKS.test("promise 22: the time goes from 0 to 5000", EdgeAccountTest::greatestTime);
        CHECKS.test("promise 23: tokens, INVALID if there is no such node", () -> Wrong.nodes(CHECKS, "tokens", RateLimiter::tokens));
        CHECKS.test("promise 23: tokens of 0", EdgeAccountTest::noTokens);
        CHECKS.test("promise 24: credit, INVALID if there is no such node", () -> Wrong.nodes(CHECKS, "credit", RateLimiter::credit));
        CHECKS.test("promise 24: credit spent to 0", EdgeAccountTest::creditSpent);
        CHECKS.test("promise 25: headroom, INVALID if there is no such node", () -> Wrong.nodes(CHECKS, "headroom", RateLimiter::headroom));
        CHECKS.test("promise 25: headroom of 0", EdgeAccountTest::noHeadroom);
        CHECKS.finish();
    }

    private static void account(RateLimiter x, int node, int tokens, int credit, int headroom) {
        CHECKS.due("tokens(" + node + ") at " + x.time(), x.tokens(node), tokens);
        CHECKS.due("credit(" + node + ") at " + x.time(), x.credit(node), credit);
        CHECKS.due("headroom(" + node + ") at " + x.time(), x.headroom(node), headroom);
    }

    private static void afterLoad() {
        RateLimiter x = Checks.loaded("node a burst 1 credit 9;node b in a burst 999 rate 99;node c in b rate 0 ceiling 0;");
        account(x, 0, 1, 0, 1);
        account(x, 1, 999, 0, 999);
        account(x, 2, 10, 0, 10);
        RateLimiter y = Checks.loaded(Wrong.twelve());
        account(y, 11, 10, 0, 10);
    }

    private static void timeAfterLoad() {
        RateLimiter x = Checks.loaded("node a;");
        CHECKS.due("time()", x.time(), 0);
        x.advance(7);
        Checks.load(x, "node a");
        CHECKS.due("time() after a fault", x.time(), 7);
        Checks.load(x, "node a;");
        CHECKS.due("time() after a load", x.time(), 0);
    }

    /** A burst of 10 of which some tokens were spent, and a tick with a rate. */
    private static void tokens(int spent, int rate, int tokens, int credit) {
        RateLimiter x = Checks.loaded("node a burst 10 credit 99 ceiling 0 rate " + rate + ";");
        x.acquire(0, spent);
        account(x, 0, 10 - spent, 0, 10 - spent);
        x.advance(1);
        account(x, 0, tokens, credit, 10 - spent);
    }

    /** Full tokens, a credit limit of 5, and a tick with a rate; then another one. */
    private static void credit(int rate, int credit) {
        RateLimiter x = Checks.loaded("node a credit 5 rate " + rate + ";");
        x.advance(1);
        account(x, 0, 10, credit, 10);
        x.advance(1);
        account(x, 0, 10, 5, 10);
    }

    private static void noCredit() {
        RateLimiter x = Checks.loaded("node a rate 9 credit 0;");
        x.advance(3);
        account(x, 0, 10, 0, 10);
        x.acquire(0, 5);
        x.advance(1);
        account(x, 0, 10, 0, 10);
    }

    private static void greatestCredit() {
        RateLimiter x = Checks.loaded("node a rate 99 credit 999;");
        x.advance(10);
        account(x, 0, 10, 990, 10);
        x.advance(1);
        account(x, 0, 10, 999, 10);
        x.advance(500);
        account(x, 0, 10, 999, 10);
    }

    private static void creditStays() {
        RateLimiter x = Checks.loaded("node a rate 4 ceiling 99 credit 7;");
        x.advance(2);
        account(x, 0, 10, 7, 10);
        x.acquire(0, 10);
        account(x, 0, 0, 7, 0);
        x.advance(2);
        account(x, 0, 8, 7, 10);
        x.advance(1);
        account(x, 0, 10, 7, 10);
    }

    /** A burst of 10 of which 4 were sent, and a tick with a ceiling. */
    private static void headroom(int ceiling, int headroom) {
        RateLimiter x = Checks.loaded("node a rate 0 burst 10 ceiling " + ceiling + ";");
        x.acquire(0, 4);
        account(x, 0, 6, 0, 6);
        x.advance(1);
        account(x, 0, 6, 0, headroom);
    }

    private static void leastBurst() {
        RateLimiter x = Checks.loaded("node a rate 1 burst 1 credit 1;");
        CHECKS.due("acquire(0, 2)", x.acquire(0, 2), RateLimiter.NONE);
        CHECKS.due("acquire(0, 1)", x.acquire(0, 1), 0);
        account(x, 0, 0, 0, 0);
        x.advance(1);
        account(x, 0, 1, 0, 1);
        x.advance(1);
        account(x, 0, 1, 1, 1);
    }

    private static void greatestBurst() {
        RateLimiter x = Checks.loaded("node a rate 99 ceiling 999 burst 999;");
        for (int i = 1; i <= 10; i++) {
            CHECKS.due("acquire(0, 99)", x.acquire(0, 99), 0);
            account(x, 0, 999 - 99 * i, 0, 999 - 99 * i);
        }
        CHECKS.due("acquire(0, 10)", x.acquire(0, 10), RateLimiter.NONE);
        CHECKS.due("acquire(0, 9)", x.acquire(0, 9), 0);
        account(x, 0, 0, 0, 0);
        x.advance(1);
        account(x, 0, 99, 0, 999);
        x.advance(10);
        account(x, 0, 999, 0, 999);
    }

    private static void allNodes() {
        StringBuilder text = new StringBuilder("node a rate 1 ceiling 2 burst 100;");
        for (int i = 1; i < 12; i++) {
            text.append("node ").append((char) ('a' + i)).append(" in ").append((char) ('a' + i - 1));
            text.append(" rate ").append(i + 1).append(" ceiling ").append(i + 2).append(" burst ").append(100 + i).append(';');
        }
        RateLimiter x = Checks.loaded(text.toString());
        x.acquire(11, 50);
        x.advance(1);
        for (int node = 0; node < 12; node++) {
            account(x, node, 50 + node + node + 1, 0, 50 + node + node + 2);
        }
    }

    private static void changesFirst() {
        RateLimiter x = Checks.loaded("node a rate 1 ceiling 1 burst 99;at 2 a rate 9;at 2 a ceiling 8;");
        x.acquire(0, 90);
        x.advance(1);
        account(x, 0, 10, 0, 10);
        CHECKS.due("rate(0) at 1", x.rate(0), 1);
        CHECKS.due("ceiling(0) at 1", x.ceiling(0), 1);
        x.advance(1);
        account(x, 0, 19, 0, 18);
        CHECKS.due("rate(0) at 2", x.rate(0), 9);
        CHECKS.due("ceiling(0) at 2", x.ceiling(0), 8);
        x.setRate(0, 2);
        x.advance(1);
        account(x, 0, 21, 0, 26);
    }

    private static void changesAtTheEnds() {
        RateLimiter x = Checks.loaded("node a;at 5000 a rate 99;at 1 a weight 9;at 4999 a ceiling 999;at 5000 a weight 1;");
        CHECKS.due("weight(0) at 0", x.weight(0), 1);
        x.advance(1);
        CHECKS.due("weight(0) at 1", x.weight(0), 9);
        for (int i = 0; i < 9; i++) {
            x.advance(500);
        }
        x.advance(497);
        CHECKS.due("ceiling(0) at 4998", x.ceiling(0), 1);
        x.advance(1);
        CHECKS.due("ceiling(0) at 4999", x.ceiling(0), 999);
        CHECKS.due("rate(0) at 4999", x.rate(0), 1);
        CHECKS.due("weight(0) at 4999", x.weight(0), 9);
        x.advance(1);
        CHECKS.due("rate(0) at 5000", x.rate(0), 99);
        CHECKS.due("weight(0) at 5000", x.weight(0), 1);
    }

    private static void changesInOrder() {
        String twelve = "at 3 a rate 5;at 3 a rate 6;at 2 a rate 7;at 3 a ceiling 4;at 3 b weight 2;at 3 a rate 8;"
                + "at 3 b rate 3;at 4 a rate 1;at 3 b weight 3;at 2 b weight 9;at 3 a rate 9;at 3 a rate 2;";
        RateLimiter x = Checks.loaded("node a burst 99;node b in a;" + twelve);
        x.advance(2);
        CHECKS.due("rate(0) at 2", x.rate(0), 7);
        CHECKS.due("weight(1) at 2", x.weight(1), 9);
        x.advance(1);
        CHECKS.due("rate(0) at 3, the last of the twelve", x.rate(0), 2);
        CHECKS.due("ceiling(0) at 3", x.ceiling(0), 4);
        CHECKS.due("rate(1) at 3", x.rate(1), 3);
        CHECKS.due("weight(1) at 3", x.weight(1), 3);
        x.advance(1);
        CHECKS.due("rate(0) at 4", x.rate(0), 1);
    }

    private static void refillBeforeDrop() {
        RateLimiter x = Checks.loaded("node a rate 3 burst 9;age 0;");
        x.acquire(0, 9);
        x.enqueue(0, 3);
        CHECKS.due("advance(1)", x.advance(1), 0);
        account(x, 0, 3, 0, 3);
        CHECKS.due("droppedCount(0)", x.droppedCount(0), 1);
    }

    private static void dropBeforeDispatch() {
        RateLimiter x = Checks.loaded("node a rate 9 burst 9;age 1;");
        x.acquire(0, 9);
        x.enqueue(0, 9);
        x.enqueue(0, 8);
        CHECKS.due("advance(1), age 1", x.advance(1), 1);
        CHECKS.due("advance(1), age 2", x.advance(1), 0);
        CHECKS.due("droppedCount(0)", x.droppedCount(0), 1);
        CHECKS.due("sentCount(0)", x.sentCount(0), 2);
    }

    private static void refillBeforeDispatch() {
        RateLimiter x = Checks.loaded("node a rate 5 burst 9;");
        x.acquire(0, 9);
        x.enqueue(0, 5);
        x.enqueue(0, 6);
        CHECKS.due("advance(1)", x.advance(1), 1);
        account(x, 0, 0, 0, 0);
        CHECKS.due("advance(1), one too few", x.advance(1), 0);
        account(x, 0, 5, 0, 5);
    }

    private static void timeWithoutNodes() {
        CHECKS.due("of a new object", new RateLimiter().time(), 0);
        RateLimiter x = Checks.loaded("limit 5;");
        x.advance(1);
        CHECKS.due("without nodes", x.time(), 0);
    }

    private static void greatestTime() {
        RateLimiter x = Checks.loaded("node a;");
        for (int i = 1; i <= 10; i++) {
            x.advance(500);
            CHECKS.due("time()", x.time(), 500 * i);
        }
        x.advance(1);
        CHECKS.due("time() after a refused tick", x.time(), 5000);
        x.save(0);
        Checks.load(x, "node a;");
        CHECKS.due("time() after a load", x.time(), 0);
    }

    private static void noTokens() {
        RateLimiter x = Checks.loaded("node a rate 0 ceiling 99;node b in a burst 9 rate 9 ceiling 9;");
        x.acquire(1, 9);
        account(x, 0, 1, 0, 1);
        account(x, 1, 0, 0, 0);
        x.advance(1);
        x.acquire(1, 9);
        account(x, 0, 0, 0, 1);
        account(x, 1, 0, 0, 0);
    }

    private static void creditSpent() {
        RateLimiter x = Checks.loaded("node a rate 3 ceiling 99 burst 20 credit 3;");
        x.advance(1);
        account(x, 0, 20, 3, 20);
        x.acquire(0, 18);
        account(x, 0, 2, 3, 2);
        x.setRate(0, 0);
        x.advance(1);
        CHECKS.due("acquire(0, 6)", x.acquire(0, 6), RateLimiter.NONE);
        CHECKS.due("acquire(0, 5)", x.acquire(0, 5), 0);
        account(x, 0, 0, 0, 15);
    }

    private static void noHeadroom() {
        RateLimiter x = Checks.loaded("node a rate 9 ceiling 0;node b in a burst 6;");
        x.acquire(1, 6);
        CHECKS.due("headroom(1)", x.headroom(1), 0);
        CHECKS.due("headroom(0)", x.headroom(0), 4);
        x.setCeiling(1, 6);
        x.advance(1);
        x.acquire(1, 4);
        CHECKS.due("headroom(0)", x.headroom(0), 0);
        x.advance(500);
        CHECKS.due("headroom(0) with ceiling 0", x.headroom(0), 0);
        CHECKS.due("headroom(2)", x.headroom(2), INVALID);
    }
}
