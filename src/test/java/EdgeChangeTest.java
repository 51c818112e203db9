/** The edges that section 6 and promises 60 to 65 of the document name: changes and snapshots. */
final class EdgeChangeTest {
    private static final Checks CHECKS = new Checks("EdgeChangeTest");
    private static final int INVALID = RateLimiter.INVALID;
    private static final int NONE = RateLimiter.NONE;
    private static final int[] NO_SNAPSHOT = {-1, 2, 3, Integer.MIN_VALUE, Integer.MAX_VALUE};

    public static void main(String[] args) {
        CHECKS.test("promise 60: setRate, no such node", () -> Wrong.nodes(CHECKS, "setRate", (x, node) -> x.setRate(node, 1)));
        CHECKS.test("promise 60: rates from 0 to 99", () -> range(RateLimiter::setRate, RateLimiter::rate, 0, 99));
        CHECKS.test("promise 60: its ceiling stays, also one that was left out", EdgeChangeTest::ceilingStays);
        CHECKS.test("promise 60: a refused setRate changes nothing", () -> refused("setRate", RateLimiter::setRate, 100));
        CHECKS.test("promise 61: setCeiling, no such node", () -> Wrong.nodes(CHECKS, "setCeiling", (x, node) -> x.setCeiling(node, 1)));
        CHECKS.test("promise 61: ceilings from 0 to 999", () -> range(RateLimiter::setCeiling, RateLimiter::ceiling, 0, 999));
        CHECKS.test("promise 61: a refused setCeiling changes nothing", () -> refused("setCeiling", RateLimiter::setCeiling, 1000));
        CHECKS.test("promise 62: setWeight, no such node", () -> Wrong.nodes(CHECKS, "setWeight", (x, node) -> x.setWeight(node, 1)));
        CHECKS.test("promise 62: weights from 1 to 9", () -> range(RateLimiter::setWeight, RateLimiter::weight, 1, 9));
        CHECKS.test("promise 62: a refused setWeight changes nothing", () -> refused("setWeight", RateLimiter::setWeight, 10));
        CHECKS.test("promises 60 to 62: the accounts stay", EdgeChangeTest::accountsStay);
        CHECKS.test("promise 63: clearQueue, no leaf", () -> Wrong.leaves(CHECKS, "clearQueue", RateLimiter::clearQueue));
        CHECKS.test("promise 63: 0 of an empty queue, 16 of a full one", EdgeChangeTest::clears);
        CHECKS.test("promise 63: they do not count as dropped", EdgeChangeTest::clearedAreNotDropped);
        CHECKS.test("promise 63: a refused clearQueue changes nothing", EdgeChangeTest::clearRefused);
        CHECKS.test("promise 64: save, no such snapshot", EdgeChangeTest::saveNowhere);
        CHECKS.test("promise 64: a refused save changes nothing", EdgeChangeTest::saveRefused);
        CHECKS.test("promise 64: a new object and one without nodes can be stored", EdgeChangeTest::saveNothing);
        CHECKS.test("promise 64: what was stored before is replaced", EdgeChangeTest::saveTwice);
        CHECKS.test("promise 65: restore, no such snapshot", EdgeChangeTest::restoreNowhere);
        CHECKS.test("promise 65: false if nothing was stored in it", EdgeChangeTest::restoreNothing);
        CHECKS.test("promise 65: a refused restore changes nothing", EdgeChangeTest::restoreRefused);
        CHECKS.test("promise 65: the snapshot stays", EdgeChangeTest::snapshotStays);
        CHECKS.test("section 6: there are two snapshots", EdgeChangeTest::twoSnapshots);
        CHECKS.test("section 6: a snapshot stores everything, full queues and a full log too", EdgeChangeTest::storesAll);
        CHECKS.test("section 6: numbers of requests go on as they were", EdgeChangeTest::numbersStored);
        CHECKS.test("section 6: a restore at the greatest time, and of it", EdgeChangeTest::greatestTime);
        CHECKS.test("section 6: timed changes are made again, at the snapshot's own time not", EdgeChangeTest::changesAgain);
        CHECKS.test("section 6: a successful load deletes both", EdgeChangeTest::loadDeletes);
        CHECKS.test("section 6: a load with a fault deletes none", EdgeChangeTest::faultDeletesNone);
        CHECKS.finish();
    }

    interface Setter {
        int of(RateLimiter x, int node, int value);
    }

    private static void range(Setter set, Wrong.Ask get, int least, int greatest) {
        for (String setup : new String[] {"node a;", Wrong.twelve()}) {
            RateLimiter x = Checks.loaded(setup);
            int node = x.nodeCount() - 1;
            int before = get.of(x, node);
            for (int wrong : new int[] {least - 1, -1, Integer.MIN_VALUE, greatest + 1, Integer.MAX_VALUE}) {
                CHECKS.due("set " + wrong, set.of(x, node, wrong), INVALID);
                CHECKS.due("value after it", get.of(x, node), before);
            }
            CHECKS.due("set " + greatest, set.of(x, node, greatest), before);
            CHECKS.due("value after it", get.of(x, node), greatest);
            CHECKS.due("set " + least, set.of(x, node, least), greatest);
            CHECKS.due("value after it", get.of(x, node), least);
            CHECKS.due("set " + least + " again", set.of(x, node, least), least);
            CHECKS.due("set " + (greatest + 1), set.of(x, node, greatest + 1), INVALID);
            CHECKS.due("value after it", get.of(x, node), least);
            CHECKS.due("node beyond, wrong value", set.of(x, node + 1, greatest + 1), INVALID);
        }
    }

    private static void refused(String call, Setter set, int above) {
        Twins.unchanged(CHECKS, "refused calls of " + call, x -> {
            for (int node : new int[] {-1, 3, 12, Integer.MIN_VALUE, Integer.MAX_VALUE}) {
                CHECKS.due(call, set.of(x, node, 1), INVALID);
            }
            for (int value : new int[] {-1, above, Integer.MIN_VALUE, Integer.MAX_VALUE}) {
                CHECKS.due(call, set.of(x, 0, value), INVALID);
                CHECKS.due(call, set.of(x, 2, value), INVALID);
            }
        });
    }

    private static void ceilingStays() {
        RateLimiter x = Checks.loaded("node a rate 5;node b in a rate 5 ceiling 7;");
        x.setRate(0, 99);
        x.setRate(1, 0);
        CHECKS.due("ceiling(0)", x.ceiling(0), 5);
        CHECKS.due("ceiling(1)", x.ceiling(1), 7);
        x.setCeiling(0, 0);
        CHECKS.due("rate(0)", x.rate(0), 99);
    }

    private static void accountsStay() {
        RateLimiter x = Checks.loaded("node a rate 5 burst 20 credit 9;");
        x.advance(1);
        x.acquire(0, 3);
        x.setRate(0, 99);
        x.setCeiling(0, 999);
        x.setWeight(0, 9);
        CHECKS.due("tokens(0)", x.tokens(0), 17);
        CHECKS.due("credit(0)", x.credit(0), 5);
        CHECKS.due("headroom(0)", x.headroom(0), 17);
        x.setRate(0, 0);
        x.setCeiling(0, 0);
        CHECKS.due("tokens(0)", x.tokens(0), 17);
        CHECKS.due("headroom(0)", x.headroom(0), 17);
    }

    private static void clears() {
        RateLimiter x = Checks.loaded(Wrong.twelve());
        CHECKS.due("clearQueue(1), empty", x.clearQueue(1), 0);
        for (int i = 0; i < 17; i++) {
            x.enqueue(1, 20);
            x.enqueue(11, 20);
        }
        CHECKS.due("clearQueue(1), full", x.clearQueue(1), 16);
        CHECKS.due("clearQueue(1), again", x.clearQueue(1), 0);
        CHECKS.due("queueLength(1)", x.queueLength(1), 0);
        CHECKS.due("requestAt(1, 0)", x.requestAt(1, 0), NONE);
        CHECKS.due("queueLength(11)", x.queueLength(11), 16);
        x.enqueue(1, 20);
        CHECKS.due("clearQueue(1), one", x.clearQueue(1), 1);
    }

    private static void clearedAreNotDropped() {
        RateLimiter x = Checks.loaded("node a;age 0;");
        for (int i = 0; i < 16; i++) {
            x.enqueue(0, 20);
        }
        x.clearQueue(0);
        CHECKS.due("droppedCount(0)", x.droppedCount(0), 0);
        x.advance(5);
        CHECKS.due("droppedCount(0) later", x.droppedCount(0), 0);
        CHECKS.due("sentCount(0)", x.sentCount(0), 0);
        CHECKS.due("enqueue(0, 20)", x.enqueue(0, 20), 16);
    }

    private static void clearRefused() {
        Twins.unchanged(CHECKS, "refused calls of clearQueue", x -> {
            for (int leaf : new int[] {0, -1, 3, 12, Integer.MIN_VALUE, Integer.MAX_VALUE}) {
                CHECKS.due("clearQueue(" + leaf + ")", x.clearQueue(leaf), INVALID);
            }
        });
    }

    // ---- snapshots

    private static void saveNowhere() {
        for (RateLimiter x : new RateLimiter[] {new RateLimiter(), Twins.busy()}) {
            for (int snapshot : NO_SNAPSHOT) {
                CHECKS.due("save(" + snapshot + ")", x.save(snapshot), false);
            }
            CHECKS.due("save(0)", x.save(0), true);
            CHECKS.due("save(1)", x.save(1), true);
        }
    }

    private static void saveRefused() {
        Twins.unchanged(CHECKS, "refused saves", x -> {
            for (int snapshot : NO_SNAPSHOT) {
                x.save(snapshot);
            }
        });
    }

    private static void saveNothing() {
        for (String setup : new String[] {"", "limit 5;"}) {
            RateLimiter x = Checks.loaded(setup);
            CHECKS.due("save(0)", x.save(0), true);
            CHECKS.due("restore(0)", x.restore(0), true);
            CHECKS.due("nodeCount()", x.nodeCount(), 0);
            CHECKS.due("restore(1)", x.restore(1), false);
        }
        RateLimiter y = new RateLimiter();
        CHECKS.due("save(1) of a new object", y.save(1), true);
        CHECKS.due("restore(1) of a new object", y.restore(1), true);
        CHECKS.due("time()", y.time(), 0);
        CHECKS.due("restore(0) of a new object", y.restore(0), false);
    }

    private static void saveTwice() {
        RateLimiter x = Checks.loaded("node a;");
        x.save(0);
        x.advance(3);
        x.save(0);
        x.advance(3);
        CHECKS.due("restore(0)", x.restore(0), true);
        CHECKS.due("time()", x.time(), 3);
    }

    private static void restoreNowhere() {
        RateLimiter x = Checks.loaded("node a;");
        x.save(0);
        x.save(1);
        for (int snapshot : NO_SNAPSHOT) {
            CHECKS.due("restore(" + snapshot + ")", x.restore(snapshot), false);
        }
        CHECKS.due("restore(0)", x.restore(0), true);
        CHECKS.due("restore(1)", x.restore(1), true);
    }

    private static void restoreNothing() {
        for (int snapshot = 0; snapshot < 2; snapshot++) {
            CHECKS.due("of a new object", new RateLimiter().restore(snapshot), false);
            RateLimiter x = Checks.loaded("node a;");
            CHECKS.due("after a load", x.restore(snapshot), false);
            x.save(1 - snapshot);
            CHECKS.due("the other one was stored", x.restore(snapshot), false);
            CHECKS.due("the other one", x.restore(1 - snapshot), true);
            CHECKS.due("after a restore of the other one", x.restore(snapshot), false);
        }
    }

    private static void restoreRefused() {
        Twins.unchanged(CHECKS, "refused restores", x -> {
            for (int snapshot : NO_SNAPSHOT) {
                x.restore(snapshot);
            }
            CHECKS.due("restore(1), in which nothing was stored", x.restore(1), false);
        });
    }

    private static void snapshotStays() {
        RateLimiter x = Twins.busy();
        x.restore(0);
        String first = Twins.answers(x);
        RateLimiter y = Twins.busy();
        y.restore(0);
        y.advance(9);
        y.acquire(1, 3);
        y.enqueue(1, 3);
        y.clearQueue(2);
        y.setRate(1, 9);
        y.setCeiling(1, 9);
        y.setWeight(1, 9);
        y.forecast(1, 9);
        CHECKS.due("restore(0) again", y.restore(0), true);
        CHECKS.due("answers", Twins.answers(y), first);
        CHECKS.due("restore(0) once more", y.restore(0), true);
        CHECKS.due("hidden", Twins.hidden(y), Twins.hidden(x));
    }

    private static void twoSnapshots() {
        RateLimiter x = Checks.loaded("node a;");
        x.advance(1);
        x.save(0);
        x.advance(1);
        x.save(1);
        x.advance(1);
        x.restore(0);
        CHECKS.due("time() of 0", x.time(), 1);
        x.restore(1);
        CHECKS.due("time() of 1", x.time(), 2);
        x.restore(0);
        x.save(1);
        x.advance(5);
        x.restore(1);
        CHECKS.due("time() of 1, stored anew", x.time(), 1);
    }

    private static RateLimiter full() {
        RateLimiter x = Checks.loaded("node a rate 50 ceiling 99 burst 999 credit 99;node b in a rate 0 ceiling 60 burst 60;"
                + "node c in a rate 9 ceiling 99 burst 99 credit 30;age 20;");
        x.acquire(1, 60);
        x.advance(4);
        for (int i = 0; i < 24; i++) {
            x.acquire(1 + i % 2, 2);
        }
        for (int i = 0; i < 18; i++) {
            x.enqueue(1, 61 + i);
            x.enqueue(2, 80 - i);
        }
        x.setWeight(1, 5);
        x.setRate(2, 8);
        x.setCeiling(2, 7);
        return x;
    }

    private static void storesAll() {
        RateLimiter asked = full();
        asked.save(1);
        asked.setRate(2, 1);
        asked.setCeiling(2, 1);
        asked.setWeight(1, 1);
        asked.advance(30);
        asked.acquire(1, 30);
        asked.acquire(2, 30);
        asked.enqueue(1, 9);
        CHECKS.due("restore(1)", asked.restore(1), true);
        CHECKS.due("answers", Twins.answers(asked), Twins.answers(full()));
    }

    private static void numbersStored() {
        RateLimiter x = Checks.loaded("node a rate 0 burst 1;");
        x.save(0);
        CHECKS.due("enqueue(0, 2)", x.enqueue(0, 2), 0);
        CHECKS.due("enqueue(0, 2)", x.enqueue(0, 2), 1);
        x.save(1);
        x.restore(0);
        CHECKS.due("enqueue(0, 2) of snapshot 0", x.enqueue(0, 2), 0);
        x.restore(1);
        CHECKS.due("enqueue(0, 2) of snapshot 1", x.enqueue(0, 2), 2);
    }

    private static void greatestTime() {
        RateLimiter x = Checks.loaded("node a;");
        x.save(0);
        for (int i = 0; i < 10; i++) {
            x.advance(500);
        }
        x.save(1);
        CHECKS.due("restore(0) at 5000", x.restore(0), true);
        CHECKS.due("time()", x.time(), 0);
        CHECKS.due("advance(500)", x.advance(500), 0);
        CHECKS.due("restore(1)", x.restore(1), true);
        CHECKS.due("time()", x.time(), 5000);
        CHECKS.due("advance(1)", x.advance(1), INVALID);
    }

    private static void changesAgain() {
        RateLimiter x = Checks.loaded("node a;at 2 a rate 7;at 1 a rate 5;");
        x.save(0);
        x.advance(1);
        x.setRate(0, 9);
        x.save(1);
        x.advance(1);
        CHECKS.due("rate(0) at 2", x.rate(0), 7);
        x.restore(1);
        CHECKS.due("rate(0) at 1, as it was stored", x.rate(0), 9);
        x.advance(1);
        CHECKS.due("rate(0) at 2 again", x.rate(0), 7);
        x.restore(0);
        CHECKS.due("rate(0) at 0", x.rate(0), 1);
        x.advance(1);
        CHECKS.due("rate(0) at 1 again", x.rate(0), 5);
    }

    private static void loadDeletes() {
        for (String setup : new String[] {"node a;", "", "limit 5;"}) {
            RateLimiter x = Checks.loaded("node a;node b in a;");
            x.save(0);
            x.save(1);
            CHECKS.due("load of '" + setup + "'", Checks.load(x, setup) >= 0, true);
            CHECKS.due("restore(0)", x.restore(0), false);
            CHECKS.due("restore(1)", x.restore(1), false);
            CHECKS.due("save(1)", x.save(1), true);
            CHECKS.due("restore(0)", x.restore(0), false);
            CHECKS.due("restore(1)", x.restore(1), true);
        }
    }

    private static void faultDeletesNone() {
        RateLimiter x = Checks.loaded("node a;");
        x.advance(1);
        x.save(0);
        x.advance(1);
        x.save(1);
        for (String setup : new String[] {"!", "node b", "node b;node b in b;"}) {
            CHECKS.due("load of '" + setup + "'", Checks.load(x, setup), INVALID);
            CHECKS.due("restore(0)", x.restore(0), true);
            CHECKS.due("time()", x.time(), 1);
            CHECKS.due("restore(1)", x.restore(1), true);
            CHECKS.due("time()", x.time(), 2);
        }
    }
}
