import java.util.function.Consumer;

/**
 * Two objects that were made alike. One gets calls that must leave it as it was; then all answers of both are compared,
 * and also what only further calls show: the next number, the snapshots and the input buffer. Each object gets
 * fewer than the 512 calls for which the document promises something.
 */
final class Twins {
    private static final String SETUP = "node a rate 9 ceiling 40 burst 60 credit 30;"
            + "node b in a rate 2 ceiling 20 burst 30 weight 3;node c in a rate 0 ceiling 5 burst 9 credit 3 priority 2 alone;"
            + "limit 4;age 3;at 3 b rate 1;at 20 c weight 4;";

    private Twins() {
    }

    /**
     * The time is 4. Leaf 1 has borrowed 25, both leaves have dropped a request, leaf 1 holds the costs 31 and 4, leaf 2
     * holds 9 and 3, and none can be sent but 4. Snapshot 0 is of the time 2, snapshot 1 is not stored.
     */
    static RateLimiter busy() {
        RateLimiter x = Checks.loaded(SETUP);
        x.acquire(1, 12);
        x.enqueue(1, 31);
        x.enqueue(2, 30);
        x.advance(2);
        x.acquire(1, 25);
        x.acquire(2, 8);
        x.enqueue(2, 9);
        x.enqueue(2, 3);
        x.enqueue(1, 31);
        x.save(0);
        x.advance(2);
        x.acquire(1, 5);
        x.enqueue(1, 4);
        Checks.feed(x, "node q;node");
        return x;
    }

    static void unchanged(Checks checks, String calls, Consumer<RateLimiter> refused) {
        RateLimiter asked = busy();
        refused.accept(asked);
        same(checks, calls, asked, busy());
    }

    static void same(Checks checks, String calls, RateLimiter asked, RateLimiter twin) {
        checks.due(calls + " leave(s) all as it was", answers(asked), answers(twin));
        checks.due(calls + " leave(s) all that is hidden as it was", hidden(asked), hidden(twin));
    }

    /** The test of this class: the object is busy, and each change shows in the answers or at least in what is hidden. */
    static void changesShow(Checks checks) {
        RateLimiter busy = busy();
        checks.due("borrowedCost(1)", busy.borrowedCost(1), 25);
        checks.due("lentCost(0)", busy.lentCost(0), 25);
        for (int leaf = 1; leaf < 3; leaf++) {
            checks.due("droppedCount", busy.droppedCount(leaf), 1);
            checks.due("queueLength", busy.queueLength(leaf), 2);
        }
        checks.due("logCount()", busy.logCount(), 4);
        shows(checks, "feed", x -> x.feed(0, 0, 0, 0, 0));
        shows(checks, "truncate", x -> x.truncate(7));
        shows(checks, "load", x -> x.load());
        shows(checks, "acquire", x -> x.acquire(1, 1));
        shows(checks, "enqueue", x -> x.enqueue(1, 1));
        shows(checks, "enqueue and taken back", x -> {
            x.clearQueue(2);
            x.enqueue(2, 9);
            x.enqueue(2, 3);
        });
        shows(checks, "advance", x -> x.advance(1));
        shows(checks, "setRate", x -> x.setRate(2, 1));
        shows(checks, "setCeiling", x -> x.setCeiling(2, 6));
        shows(checks, "setWeight", x -> x.setWeight(2, 2));
        shows(checks, "clearQueue", x -> x.clearQueue(2));
        shows(checks, "save 0", x -> x.save(0));
        shows(checks, "save 1", x -> x.save(1));
        shows(checks, "restore", x -> x.restore(0));
    }

    private static void shows(Checks checks, String call, Consumer<RateLimiter> change) {
        RateLimiter changed = busy();
        change.accept(changed);
        RateLimiter twin = busy();
        boolean same = answers(changed).equals(answers(twin)) && hidden(changed).equals(hidden(twin));
        checks.due(call + " shows", same, false);
    }

    /** All answers that change nothing, with the end of the setup text for the whole of it. */
    static String answers(RateLimiter x) {
        StringBuilder all = new StringBuilder();
        add(all, "fault", x.faultCode(), x.faultPosition());
        add(all, "all", x.nodeCount(), x.time(), x.nextLeaf(), x.fairness(), x.mostServed(), x.busiestCost(2));
        add(all, "log", x.logCount(), x.recentCost(3));
        for (int k = 0; k < x.logCount(); k++) {
            add(all, " ", x.loggedLeaf(k), x.loggedCost(k), x.loggedLender(k), x.loggedTime(k));
        }
        for (int node = 0; node < x.nodeCount(); node++) {
            addNode(all, x, node);
            addLeaf(all, x, node);
        }
        int length = x.setupLength();
        add(all, "text", length);
        for (int i = Math.max(0, length - 50); i < length; i++) {
            all.append((char) x.setupByte(i));
        }
        return all.toString();
    }

    private static void addNode(StringBuilder all, RateLimiter x, int node) {
        add(all, "node", x.nameLetter(node, 0), x.parent(node), x.child(node, 0), x.child(node, 1), x.depth(node));
        add(all, "set", x.rate(node), x.ceiling(node), x.burst(node), x.creditLimit(node), x.weight(node));
        add(all, "may", x.priority(node), x.mayBorrow(node) ? 1 : 0, x.isOversubscribed(node) ? 1 : 0);
        add(all, "has", x.tokens(node), x.credit(node), x.headroom(node), x.pathCeiling(node), x.lentCost(node));
    }

    private static void addLeaf(StringBuilder all, RateLimiter x, int node) {
        if (!x.isLeaf(node)) {
            return;
        }
        add(all, "sent", x.sentCost(node), x.sentCount(node), x.borrowedCost(node), x.droppedCount(node));
        add(all, "may send", x.greatestCost(node), x.fairShare(node), x.lender(node, 5), x.refusal(node, 9));
        add(all, "queue", x.queueLength(node), x.queuedCost(node));
        for (int place = 0; place < x.queueLength(node); place++) {
            add(all, " ", x.requestAt(node, place), x.costAt(node, place), x.ageAt(node, place));
        }
    }

    /** What only further calls show; they spoil the object. */
    static String hidden(RateLimiter x) {
        StringBuilder all = new StringBuilder();
        int leaf = x.nodeCount() - 1;
        add(all, "number", x.enqueue(leaf, 1));
        for (int snapshot = 0; snapshot < 2; snapshot++) {
            add(all, "snapshot", x.restore(snapshot) ? 1 : 0, x.time(), x.rate(leaf), x.ceiling(leaf), x.weight(leaf));
            add(all, "has", x.tokens(leaf), x.credit(leaf), x.headroom(leaf), x.sentCost(leaf), x.logCount());
            add(all, "queue", x.queueLength(leaf), x.queuedCost(leaf), x.droppedCount(leaf), x.enqueue(leaf, 1));
        }
        add(all, "buffer", x.feed(0, 0, 0, 0, 0), x.load(), x.faultCode(), x.faultPosition(), x.nodeCount());
        return all.toString();
    }

    private static void add(StringBuilder all, String title, int... numbers) {
        all.append(' ').append(title);
        for (int number : numbers) {
            all.append(' ').append(number);
        }
    }
}
