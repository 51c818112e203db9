/** Promises 22 to 25: time, tokens, credit and headroom, with what a tick does to them. */
final class AccountTest {
    private static final Checks CHECKS = new Checks("AccountTest");
    private static final int INVALID = RateLimiter.INVALID;

    public static void main(String[] args) {
        atFirst();
        noSuchNode();
        refill();
        creditFills();
        rateAndCeilingZero();
        changesComeBeforeTokens();
        CHECKS.finish();
    }

    private static void account(RateLimiter x, int node, int tokens, int credit, int headroom) {
        CHECKS.due("tokens(" + node + ") at " + x.time(), x.tokens(node), tokens);
        CHECKS.due("credit(" + node + ") at " + x.time(), x.credit(node), credit);
        CHECKS.due("headroom(" + node + ") at " + x.time(), x.headroom(node), headroom);
    }

    private static void atFirst() {
        RateLimiter x = Checks.loaded("node a rate 5 burst 7 credit 9;node b in a burst 999;");
        CHECKS.due("time()", x.time(), 0);
        account(x, 0, 7, 0, 7);
        account(x, 1, 999, 0, 999);
    }

    private static void noSuchNode() {
        RateLimiter[] limiters = {new RateLimiter(), Checks.loaded("node a;node b in a;")};
        for (RateLimiter x : limiters) {
            for (int node : new int[] {-1, x.nodeCount(), 12, Integer.MAX_VALUE, Integer.MIN_VALUE}) {
                account(x, node, INVALID, INVALID, INVALID);
            }
        }
    }

    private static void refill() {
        RateLimiter x = Checks.loaded("node a rate 3 ceiling 4 burst 10 credit 5;");
        CHECKS.due("acquire(0, 9)", x.acquire(0, 9), 0);
        account(x, 0, 1, 0, 1);
        x.advance(1);
        CHECKS.due("time()", x.time(), 1);
        account(x, 0, 4, 0, 5);
        x.advance(1);
        account(x, 0, 7, 0, 9);
        x.advance(1);
        account(x, 0, 10, 0, 10);
        x.advance(1);
        account(x, 0, 10, 3, 10);
        x.advance(1);
        account(x, 0, 10, 5, 10);
        x.advance(500);
        account(x, 0, 10, 5, 10);
        CHECKS.due("time()", x.time(), 505);
    }

    private static void creditFills() {
        RateLimiter x = Checks.loaded("node a rate 7 ceiling 99 burst 10 credit 20;");
        x.acquire(0, 5);
        x.advance(1);
        account(x, 0, 10, 2, 10);
        x.advance(2);
        account(x, 0, 10, 16, 10);
        x.advance(1);
        account(x, 0, 10, 20, 10);
        x.acquire(0, 10);
        account(x, 0, 0, 20, 0);
        x.advance(1);
        account(x, 0, 7, 20, 10);
        x.acquire(0, 10);
        account(x, 0, 0, 17, 0);
    }

    private static void rateAndCeilingZero() {
        RateLimiter x = Checks.loaded("node a rate 0 burst 10 credit 20;");
        x.acquire(0, 4);
        x.advance(9);
        account(x, 0, 6, 0, 6);
        x.setCeiling(0, 3);
        x.advance(1);
        account(x, 0, 6, 0, 9);
        x.setRate(0, 3);
        x.advance(2);
        account(x, 0, 10, 2, 10);
    }

    private static void changesComeBeforeTokens() {
        RateLimiter x = Checks.loaded("node a rate 1 burst 50 ceiling 2;at 2 a rate 7;at 2 a ceiling 9;at 2 a rate 8;");
        x.acquire(0, 40);
        x.advance(1);
        account(x, 0, 11, 0, 12);
        x.advance(1);
        account(x, 0, 19, 0, 21);
        CHECKS.due("rate(0)", x.rate(0), 8);
        x.advance(1);
        account(x, 0, 27, 0, 30);
    }
}
