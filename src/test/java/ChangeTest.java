/** Promises 60 to 65: setRate, setCeiling, setWeight, clearQueue, save and restore. */
final class ChangeTest {
    private static final Checks CHECKS = new Checks("ChangeTest");
    private static final int INVALID = RateLimiter.INVALID;

    public static void main(String[] args) {
        setters();
        wrongSetters();
        timedChanges();
        clear();
        wrongSnapshots();
        snapshotHoldsAll();
        twoSnapshots();
        snapshotStays();
        CHECKS.finish();
    }

    private static void setters() {
        RateLimiter x = Checks.loaded("node a rate 4 ceiling 5 weight 6;node b in a;");
        CHECKS.due("setRate(0, 99)", x.setRate(0, 99), 4);
        CHECKS.due("setRate(0, 0)", x.setRate(0, 0), 99);
        CHECKS.due("rate(0)", x.rate(0), 0);
        CHECKS.due("ceiling(0)", x.ceiling(0), 5);
        CHECKS.due("setCeiling(0, 999)", x.setCeiling(0, 999), 5);
        CHECKS.due("setCeiling(0, 0)", x.setCeiling(0, 0), 999);
        CHECKS.due("ceiling(0)", x.ceiling(0), 0);
        CHECKS.due("setWeight(0, 9)", x.setWeight(0, 9), 6);
        CHECKS.due("setWeight(0, 1)", x.setWeight(0, 1), 9);
        CHECKS.due("weight(0)", x.weight(0), 1);
        CHECKS.due("rate(1)", x.rate(1), 1);
        CHECKS.due("setRate(1, 7)", x.setRate(1, 7), 1);
        CHECKS.due("ceiling(1)", x.ceiling(1), 1);
        CHECKS.due("headroom(0) after setCeiling", x.headroom(0), 10);
        CHECKS.due("tokens(0) after setRate", x.tokens(0), 10);
    }

    private static void wrongSetters() {
        RateLimiter[] limiters = {new RateLimiter(), Checks.loaded("node a;")};
        for (RateLimiter x : limiters) {
            for (int node : new int[] {-1, x.nodeCount(), 12, Integer.MAX_VALUE, Integer.MIN_VALUE}) {
                CHECKS.due("setRate", x.setRate(node, 1), INVALID);
                CHECKS.due("setCeiling", x.setCeiling(node, 1), INVALID);
                CHECKS.due("setWeight", x.setWeight(node, 1), INVALID);
                CHECKS.due("clearQueue", x.clearQueue(node), INVALID);
            }
        }
        RateLimiter x = limiters[1];
        for (int wrong : new int[] {-1, 1000, Integer.MAX_VALUE, Integer.MIN_VALUE}) {
            CHECKS.due("setRate(0, " + wrong + ")", x.setRate(0, wrong), INVALID);
            CHECKS.due("setCeiling(0, " + wrong + ")", x.setCeiling(0, wrong), INVALID);
            CHECKS.due("setWeight(0, " + wrong + ")", x.setWeight(0, wrong), INVALID);
        }
        CHECKS.due("setRate(0, 100)", x.setRate(0, 100), INVALID);
        CHECKS.due("setWeight(0, 0)", x.setWeight(0, 0), INVALID);
        CHECKS.due("setWeight(0, 10)", x.setWeight(0, 10), INVALID);
        CHECKS.due("rate(0)", x.rate(0), 1);
        CHECKS.due("ceiling(0)", x.ceiling(0), 1);
        CHECKS.due("weight(0)", x.weight(0), 1);
    }

    private static void timedChanges() {
        RateLimiter x = Checks.loaded("node a rate 1;node b in a;at 2 b rate 5;at 2 b weight 4;at 3 b ceiling 7;"
                + "at 2 b rate 6;at 1 a rate 99;at 4 a rate 98;");
        x.advance(1);
        CHECKS.due("rate(0) at 1", x.rate(0), 99);
        CHECKS.due("rate(1) at 1", x.rate(1), 1);
        x.save(1);
        x.advance(1);
        CHECKS.due("rate(1) at 2", x.rate(1), 6);
        CHECKS.due("weight(1) at 2", x.weight(1), 4);
        CHECKS.due("ceiling(1) at 2", x.ceiling(1), 1);
        x.setRate(1, 3);
        x.advance(3);
        CHECKS.due("rate(1) at 5", x.rate(1), 3);
        CHECKS.due("ceiling(1) at 5", x.ceiling(1), 7);
        CHECKS.due("rate(0) at 5", x.rate(0), 98);
        x.restore(1);
        CHECKS.due("rate(0) after restore", x.rate(0), 99);
        CHECKS.due("rate(1) after restore", x.rate(1), 1);
        CHECKS.due("weight(1) after restore", x.weight(1), 1);
        x.advance(1);
        CHECKS.due("rate(1) again at 2", x.rate(1), 6);
        CHECKS.due("weight(1) again at 2", x.weight(1), 4);
    }

    private static void clear() {
        RateLimiter x = Checks.loaded("node a;node b in a;node c in a;");
        for (int i = 0; i < 5; i++) {
            x.enqueue(1, 5);
            x.enqueue(2, 6);
        }
        CHECKS.due("clearQueue(0)", x.clearQueue(0), INVALID);
        CHECKS.due("clearQueue(1)", x.clearQueue(1), 5);
        CHECKS.due("clearQueue(1)", x.clearQueue(1), 0);
        CHECKS.due("queueLength(1)", x.queueLength(1), 0);
        CHECKS.due("queuedCost(1)", x.queuedCost(1), 0);
        CHECKS.due("costAt(1, 0)", x.costAt(1, 0), RateLimiter.NONE);
        CHECKS.due("queueLength(2)", x.queueLength(2), 5);
        CHECKS.due("droppedCount(1)", x.droppedCount(1), 0);
        CHECKS.due("sentCount(1)", x.sentCount(1), 0);
        CHECKS.due("enqueue(1, 9)", x.enqueue(1, 9), 10);
        CHECKS.due("costAt(1, 0)", x.costAt(1, 0), 9);
    }

    private static void wrongSnapshots() {
        RateLimiter x = new RateLimiter();
        for (int snapshot : new int[] {-1, 2, Integer.MAX_VALUE, Integer.MIN_VALUE}) {
            CHECKS.due("save(" + snapshot + ")", x.save(snapshot), false);
            CHECKS.due("restore(" + snapshot + ")", x.restore(snapshot), false);
        }
        CHECKS.due("restore(0)", x.restore(0), false);
        CHECKS.due("restore(1)", x.restore(1), false);
        CHECKS.due("save(1)", x.save(1), true);
        CHECKS.due("restore(0)", x.restore(0), false);
        CHECKS.due("restore(1)", x.restore(1), true);
    }

    private static RateLimiter busy() {
        RateLimiter x = Checks.loaded("node a rate 20 ceiling 40 burst 50 credit 60;node b in a rate 0 ceiling 30 burst 30;"
                + "node c in a rate 3 burst 30 credit 9;age 9;at 3 b weight 2;");
        x.acquire(1, 20);
        x.acquire(2, 7);
        x.advance(5);
        x.acquire(1, 15);
        x.acquire(2, 2);
        x.setRate(0, 21);
        x.setCeiling(0, 41);
        x.enqueue(1, 29);
        x.enqueue(2, 99);
        for (int i = 0; i < 16; i++) {
            x.enqueue(1, 40 + i);
        }
        return x;
    }

    private static String everything(RateLimiter x) {
        StringBuilder all = new StringBuilder(Checks.setupText(x)).append(" time ").append(x.time());
        for (int node = 0; node < 3; node++) {
            all.append(" node ").append(x.tokens(node)).append(' ').append(x.credit(node)).append(' ');
            all.append(x.headroom(node)).append(' ').append(x.sentCost(node)).append(' ').append(x.sentCount(node));
            all.append(' ').append(x.borrowedCost(node)).append(' ').append(x.lentCost(node)).append(' ');
            all.append(x.droppedCount(node)).append(" queue");
            for (int place = 0; place < x.queueLength(node); place++) {
                all.append(' ').append(x.requestAt(node, place)).append('/').append(x.costAt(node, place));
                all.append('/').append(x.ageAt(node, place));
            }
        }
        for (int k = 0; k < x.logCount(); k++) {
            all.append(" log ").append(x.loggedLeaf(k)).append('/').append(x.loggedCost(k)).append('/');
            all.append(x.loggedLender(k)).append('/').append(x.loggedTime(k));
        }
        return all.toString();
    }

    private static void snapshotHoldsAll() {
        RateLimiter x = busy();
        String before = everything(x);
        CHECKS.due("save(0)", x.save(0), true);
        CHECKS.due("state after save", everything(x), before);
        x.setRate(2, 50);
        x.setCeiling(2, 50);
        x.setWeight(2, 5);
        x.acquire(1, 5);
        x.acquire(2, 5);
        x.clearQueue(2);
        x.enqueue(2, 4);
        x.advance(20);
        x.enqueue(2, 4);
        CHECKS.due("state is another", everything(x).equals(before), false);
        CHECKS.due("restore(0)", x.restore(0), true);
        CHECKS.due("state after restore", everything(x), before);
        x.clearQueue(1);
        CHECKS.due("the next number is the old one", x.enqueue(1, 1), 17);
    }

    private static void twoSnapshots() {
        RateLimiter x = busy();
        x.save(0);
        String first = everything(x);
        x.advance(3);
        x.acquire(2, 4);
        x.save(1);
        String second = everything(x);
        x.advance(30);
        x.restore(0);
        CHECKS.due("state of 0", everything(x), first);
        x.restore(1);
        CHECKS.due("state of 1", everything(x), second);
        x.save(0);
        x.advance(1);
        x.restore(0);
        CHECKS.due("state of 0, saved anew", everything(x), second);
    }

    private static void snapshotStays() {
        RateLimiter x = busy();
        x.save(0);
        String before = everything(x);
        for (int i = 0; i < 3; i++) {
            CHECKS.due("restore(0)", x.restore(0), true);
            CHECKS.due("state after restore", everything(x), before);
            x.advance(2 + i);
            x.acquire(2, 3);
            x.enqueue(2, 3);
            x.forecast(2, 9);
            x.drainTime(2);
            x.repeats(2, 1);
        }
        Checks.load(x, "oh");
        CHECKS.due("restore(0) after a load with a fault", x.restore(0), true);
        CHECKS.due("state", everything(x), before);
        Checks.load(x, "");
        CHECKS.due("restore(0) after a load", x.restore(0), false);
    }
}
