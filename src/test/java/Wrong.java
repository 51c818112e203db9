/** Numbers that no node, no leaf or no cost has, tried on objects without nodes, with few, with all twelve, and reloaded. */
final class Wrong {
    interface Ask {
        int of(RateLimiter x, int number);
    }

    interface Test {
        boolean of(RateLimiter x, int number);
    }

    private static final String TWELVE = twelve();

    private Wrong() {
    }

    /** A root with eleven leaves, which are as many nodes as there may be. */
    static String twelve() {
        StringBuilder text = new StringBuilder("node a;");
        for (int i = 1; i < 12; i++) {
            text.append("node ").append((char) ('a' + i)).append(" in a;");
        }
        return text.toString();
    }

    static void nodes(Checks checks, String call, Ask ask) {
        int[] beyond = {-1, -2, Integer.MIN_VALUE, Integer.MAX_VALUE, 12, 13};
        tryAll(checks, call + " of a new object", new RateLimiter(), ask, beyond, 0, 1, 11);
        tryAll(checks, call + " without nodes", Checks.loaded("limit 5;"), ask, beyond, 0, 1, 11);
        tryAll(checks, call + " of three nodes", three(), ask, beyond, 3, 4, 11);
        tryAll(checks, call + " of twelve nodes", Checks.loaded(TWELVE), ask, beyond, 12, 16, 1000);
        RateLimiter fewer = Checks.loaded(TWELVE);
        Checks.load(fewer, "node a;");
        tryAll(checks, call + " of one node, twelve before", fewer, ask, beyond, 1, 2, 11);
    }

    /** A node that is no leaf is wrong too. */
    static void leaves(Checks checks, String call, Ask ask) {
        nodes(checks, call, ask);
        tryAll(checks, call + " of the root above leaves", three(), ask, new int[0], 0);
        RateLimiter chain = Checks.loaded("node a;node b in a;node c in b;");
        tryAll(checks, call + " of an inner node", chain, ask, new int[0], 0, 1);
    }

    static void noNode(Checks checks, String call, Test test) {
        nodes(checks, call, (x, node) -> test.of(x, node) ? 1 : RateLimiter.INVALID);
    }

    /** The leaf of the object that is asked has the number 1. */
    static void costs(Checks checks, String call, Ask ask) {
        int[] beyond = {0, -1, -2, Integer.MIN_VALUE, 100, 101, Integer.MAX_VALUE};
        tryAll(checks, call + " by cost", Checks.loaded("node a burst 999;node b in a burst 999;"), ask, beyond, 999);
    }

    private static RateLimiter three() {
        return Checks.loaded("node a;node b in a;node c in a;");
    }

    private static void tryAll(Checks checks, String call, RateLimiter x, Ask ask, int[] some, int... others) {
        for (int number : some) {
            checks.due(call + ", number " + number, ask.of(x, number), RateLimiter.INVALID);
        }
        for (int number : others) {
            checks.due(call + ", number " + number, ask.of(x, number), RateLimiter.INVALID);
        }
    }
}
