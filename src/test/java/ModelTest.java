/** Compares the program with the model over many runs of calls, which a fixed sequence of numbers draws. */
final class ModelTest {
    private static final Checks CHECKS = new Checks("ModelTest");
    private static final String[] SETTINGS = {"rate", "ceiling", "burst", "credit", "weight", "priority", "alone"};
    private static final int[] GREATEST = {99, 999, 999, 999, 9, 7};
    private static final int[] EDGES = {Integer.MIN_VALUE, -2, -1, 0, 1, 2, 15, 16, 17, 23, 24, 99, 100, 500, 501,
        999, 1000, 5000, Integer.MAX_VALUE};
    private static long seed = 20261119;

    private final RateLimiter x = new RateLimiter();
    private final Model model = new Model();
    private int run;

    public static void main(String[] args) {
        for (int run = 0; run < 400 && CHECKS.isClean(); run++) {
            new ModelTest().go(run);
        }
        for (int text = 0; text < 20000 && CHECKS.isClean(); text++) {
            new ModelTest().faultyText();
        }
        CHECKS.finish();
    }

    private static int draw(int bound) {
        seed = seed * 6364136223846793005L + 1442695040888963407L;
        return (int) ((seed >>> 33) % bound);
    }

    private static String name(int i) {
        String[] names = {"a", "b", "root", "leafleaf", "z", "ins", "nodes", "aa", "ab", "rates", "alon", "zzzzzzzz"};
        return names[i];
    }

    /** Small amounts come often, so that accounts run dry. */
    private static int amount(int setting) {
        int greatest = GREATEST[setting];
        int least = setting == 2 || setting == 4 ? 1 : 0;
        int bound = draw(3) == 0 ? greatest : Math.min(greatest, setting == 2 ? 60 : 12);
        return least + draw(bound - least + 1);
    }

    private static String setup() {
        StringBuilder text = new StringBuilder();
        int nodes = 1 + draw(draw(2) == 0 ? 12 : 5);
        if (draw(2) == 0) {
            text.append("age ").append(draw(12)).append(';');
        }
        for (int i = 0; i < nodes && text.length() < 700; i++) {
            text.append("node ").append(name(i));
            if (i > 0) {
                text.append(" in ").append(name(draw(3) == 0 ? i - 1 : draw(i)));
            }
            for (int setting = 0; setting < SETTINGS.length; setting++) {
                if (setting < 6 && draw(2) == 0) {
                    text.append(' ').append(SETTINGS[setting]).append(' ').append(amount(setting));
                } else if (setting == 6 && draw(5) == 0) {
                    text.append(" alone");
                }
            }
            text.append(';');
            while (draw(3) == 0 && text.length() < 800) {
                String setting = new String[] {"rate", "ceiling", "weight"}[draw(3)];
                text.append("at ").append(1 + draw(30)).append(' ').append(name(draw(i + 1))).append(' ');
                text.append(setting).append(' ').append(1 + draw(9)).append(';');
            }
        }
        if (draw(2) == 0) {
            text.append("limit ").append(draw(5)).append(";\n");
        }
        return text.toString();
    }

    private void go(int number) {
        run = number;
        load(setup());
        int steps = 30 + draw(60);
        for (int step = 0; step < steps && CHECKS.isClean(); step++) {
            act();
            if (step % 5 == 0) {
                compareAll();
            }
        }
        compareAll();
    }

    private void due(String call, long got, long want) {
        CHECKS.due("run " + run + ", time " + model.time + ": " + call, got, want);
    }

    private void load(String text) {
        int want = model.load(text);
        due("load of '" + text + "'", Checks.load(x, text), want);
        due("faultCode() of '" + text + "'", x.faultCode(), model.faultCode);
        due("faultPosition() of '" + text + "'", x.faultPosition(), model.faultPosition);
        due("nodeCount()", x.nodeCount(), model.nodes.size());
    }

    private int leaf() {
        return draw(20) == 0 || model.nodes.isEmpty() ? draw(15) - 1 : model.leaves().get(draw(model.leaves().size()));
    }

    private static int cost() {
        int kind = draw(20);
        return kind == 0 ? EDGES[draw(EDGES.length)] : 1 + draw(kind < 15 ? 12 : 99);
    }

    private void act() {
        int leaf = leaf();
        int cost = cost();
        int node = draw(14) - 1;
        int value = draw(20) == 0 ? EDGES[draw(EDGES.length)] : draw(12);
        switch (draw(22)) {
            case 0: case 1: case 2: case 3: case 4:
                due("acquire(" + leaf + ", " + cost + ")", x.acquire(leaf, cost), model.acquire(leaf, cost));
                break;
            case 5: case 6: case 7: case 8: case 9: case 10: case 11: case 12:
                for (int i = draw(6); i >= 0; i--) {
                    int want = model.enqueue(leaf, cost);
                    due("enqueue(" + leaf + ", " + cost + ")", x.enqueue(leaf, cost), want);
                    leaf = leaf();
                }
                break;
            case 13: case 14: case 15:
                advance();
                break;
            case 16:
                due("setRate", x.setRate(node, value), model.set(node, "rate", value));
                due("setCeiling", x.setCeiling(node, value), model.set(node, "ceiling", value));
                due("setWeight", x.setWeight(node, value), model.set(node, "weight", value));
                break;
            case 17:
                due("clearQueue(" + leaf + ")", x.clearQueue(leaf), model.clearQueue(leaf));
                break;
            case 18:
                due("save", x.save(value % 3) ? 1 : 0, model.save(value % 3) ? 1 : 0);
                break;
            case 19:
                due("restore", x.restore(value % 3) ? 1 : 0, model.restore(value % 3) ? 1 : 0);
                break;
            case 20:
                think(leaf, cost);
                break;
            default:
                if (draw(8) == 0) {
                    load(draw(2) == 0 ? setup() : spoiled());
                }
        }
    }

    private void advance() {
        int kind = draw(40);
        int ticks = kind == 0 ? EDGES[draw(EDGES.length)] : kind < 3 ? 1 + draw(500) : 1 + draw(6);
        due("advance(" + ticks + ")", x.advance(ticks), model.advance(ticks));
    }

    private void think(int leaf, int cost) {
        int ticks = draw(10) == 0 ? EDGES[draw(EDGES.length)] : 1 + draw(20);
        due("forecast(" + leaf + ", " + ticks + ")", x.forecast(leaf, ticks), model.forecast(leaf, ticks));
        due("drainTime(" + leaf + ")", x.drainTime(leaf), model.drainTime(leaf));
        due("waitTime(" + leaf + ", " + cost + ")", x.waitTime(leaf, cost), model.waitTime(leaf, cost));
        due("repeats(" + leaf + ", " + cost + ")", x.repeats(leaf, cost), model.repeats(leaf, cost));
    }

    private void compareAll() {
        due("time()", x.time(), model.time);
        due("nodeCount()", x.nodeCount(), model.nodes.size());
        due("nextLeaf()", x.nextLeaf(), model.nextLeaf());
        due("fairness()", x.fairness(), model.fairness());
        due("mostServed()", x.mostServed(), model.mostServed());
        due("logCount()", x.logCount(), model.log.size());
        for (int node = -1; node <= 12; node++) {
            compareNode(node);
            compareLeaf(node);
            compareRequests(node);
        }
        for (int k : EDGES) {
            due("loggedLeaf(" + k + ")", x.loggedLeaf(k), model.logged(k, 0));
            due("loggedCost(" + k + ")", x.loggedCost(k), model.logged(k, 1));
            due("loggedLender(" + k + ")", x.loggedLender(k), model.logged(k, 2));
            due("loggedTime(" + k + ")", x.loggedTime(k), model.logged(k, 3));
            due("busiestCost(" + k + ")", x.busiestCost(k), model.busiestCost(k));
            due("recentCost(" + k + ")", x.recentCost(k), model.recentCost(k));
        }
        String text = model.setupText();
        due("setupLength()", x.setupLength(), text.length());
        CHECKS.due("run " + run + ": setup text", Checks.setupText(x), text);
    }

    private void compareNode(int node) {
        boolean has = model.has(node);
        Model.Node of = has ? model.nodes.get(node) : null;
        for (int i = -1; i < 10; i++) {
            due("nameLetter(" + node + ", " + i + ")", x.nameLetter(node, i), model.letter(node, i));
            due("child(" + node + ", " + i + ")", x.child(node, i), model.child(node, i));
        }
        due("parent(" + node + ")", x.parent(node), has ? of.parent : -1);
        due("depth(" + node + ")", x.depth(node), has ? model.path(node).size() - 1 : -1);
        due("isLeaf(" + node + ")", x.isLeaf(node) ? 1 : 0, model.isLeaf(node) ? 1 : 0);
        due("rate(" + node + ")", x.rate(node), model.setting(node, "rate"));
        due("ceiling(" + node + ")", x.ceiling(node), model.setting(node, "ceiling"));
        due("burst(" + node + ")", x.burst(node), model.setting(node, "burst"));
        due("creditLimit(" + node + ")", x.creditLimit(node), model.setting(node, "credit"));
        due("weight(" + node + ")", x.weight(node), model.setting(node, "weight"));
        due("priority(" + node + ")", x.priority(node), model.setting(node, "priority"));
        due("mayBorrow(" + node + ")", x.mayBorrow(node) ? 1 : 0, model.setting(node, "alone") == 0 ? 1 : 0);
        due("isOversubscribed(" + node + ")", x.isOversubscribed(node) ? 1 : 0, model.isOversubscribed(node) ? 1 : 0);
        due("pathCeiling(" + node + ")", x.pathCeiling(node), model.pathCeiling(node));
        due("tokens(" + node + ")", x.tokens(node), has ? of.tokens : -1);
        due("credit(" + node + ")", x.credit(node), has ? of.credit : -1);
        due("headroom(" + node + ")", x.headroom(node), has ? of.headroom : -1);
        due("lentCost(" + node + ")", x.lentCost(node), has ? of.lent : -1);
    }

    private void compareLeaf(int leaf) {
        boolean is = model.isLeaf(leaf);
        Model.Node of = is ? model.nodes.get(leaf) : null;
        due("queueLength(" + leaf + ")", x.queueLength(leaf), is ? of.queue.size() : -1);
        due("queuedCost(" + leaf + ")", x.queuedCost(leaf), model.queuedCost(leaf));
        due("sentCost(" + leaf + ")", x.sentCost(leaf), is ? of.sentCost : -1);
        due("sentCount(" + leaf + ")", x.sentCount(leaf), is ? of.sentCount : -1);
        due("borrowedCost(" + leaf + ")", x.borrowedCost(leaf), is ? of.borrowed : -1);
        due("droppedCount(" + leaf + ")", x.droppedCount(leaf), is ? of.dropped : -1);
        due("fairShare(" + leaf + ")", x.fairShare(leaf), model.fairShare(leaf));
        due("greatestCost(" + leaf + ")", x.greatestCost(leaf), model.greatestCost(leaf));
        for (int place = -1; place < 18; place++) {
            due("requestAt(" + leaf + ", " + place + ")", x.requestAt(leaf, place), model.queued(leaf, place, 0));
            due("costAt(" + leaf + ", " + place + ")", x.costAt(leaf, place), model.queued(leaf, place, 1));
            due("ageAt(" + leaf + ", " + place + ")", x.ageAt(leaf, place), model.queued(leaf, place, 2));
        }
    }

    private void compareRequests(int leaf) {
        for (int cost = -1; cost <= 101; cost += cost < 20 ? 1 : 9) {
            due("lender(" + leaf + ", " + cost + ")", x.lender(leaf, cost), model.lender(leaf, cost));
            due("refusal(" + leaf + ", " + cost + ")", x.refusal(leaf, cost), model.refusal(leaf, cost));
            due("blockingNode(" + leaf + ", " + cost + ")", x.blockingNode(leaf, cost), model.blockingNode(leaf, cost));
        }
    }

    /** A setup text with some of its pieces taken away, put twice, or put in another's place. */
    private static String spoiled() {
        StringBuilder text = new StringBuilder(setup());
        String[] pieces = {" ", ";", "node ", " in ", "limit 5;", "age 7;", "at 5 ", " a ", " rate 7", " alone", "0", "99",
            "12345", "abcdefghi", " ceiling 1000", " burst 0", " weight", " priority 8", "!", "A", "\n", "\0", "\u00ff",
            " root ", " credit"};
        for (int i = draw(3); i >= 0; i--) {
            int from = draw(text.length() + 1);
            int to = Math.min(text.length(), from + draw(3) * draw(4));
            text.replace(from, to, draw(3) == 0 ? "" : pieces[draw(pieces.length)]);
        }
        if (draw(4) == 0) {
            text.setLength(draw(text.length() + 1));
        }
        if (text.length() > 900) {
            text.setLength(900);
        }
        return text.toString();
    }

    private void faultyText() {
        load(spoiled());
        CHECKS.due("setup text", Checks.setupText(x), model.setupText());
    }
}
