/** The edges that section 1 and promises 7 to 21 of the document name: the tree. */
final class EdgeTreeTest {
    private static final Checks CHECKS = new Checks("EdgeTreeTest");
    private static final int INVALID = RateLimiter.INVALID;
    private static final int NONE = RateLimiter.NONE;
    private static final int[] FAR = {12, 13, 100, Integer.MAX_VALUE};
    private static final int[] NEGATIVE = {-1, -2, -12, Integer.MIN_VALUE};

    private static final String LEAST = "node a rate 0 ceiling 0 burst 1 credit 0 weight 1 priority 0;";
    private static final String GREATEST = "node a rate 99 ceiling 999 burst 999 credit 999 weight 9 priority 7 alone;";

    public static void main(String[] args) {
        CHECKS.test("section 1: at most 12 nodes, numbered from 0", EdgeTreeTest::twelveNodes);
        CHECKS.test("section 1: every other node has a parent with a smaller number", EdgeTreeTest::smallerParents);
        CHECKS.test("section 1: the children are ordered by number", EdgeTreeTest::childrenInOrder);
        CHECKS.test("section 1: the root is a leaf if it is the only node", EdgeTreeTest::onlyNode);
        CHECKS.test("section 1: the path includes both ends", EdgeTreeTest::pathEnds);
        CHECKS.test("section 1: the longest path has 12 nodes", EdgeTreeTest::longestPath);
        CHECKS.test("section 1: the root's permission to borrow has no effect", EdgeTreeTest::rootAlone);
        CHECKS.test("promise 7: nodeCount 0, 1 and 12", EdgeTreeTest::nodeCounts);
        CHECKS.test("promise 7: nodeCount stays when a load has a fault", EdgeTreeTest::nodeCountStays);
        CHECKS.test("promise 8: nameLetter, no such node", () -> Wrong.nodes(CHECKS, "nameLetter", (x, node) -> x.nameLetter(node, 0)));
        CHECKS.test("promise 8: letters 1 to 26", EdgeTreeTest::letterRange);
        CHECKS.test("promise 8: 0 if the name has fewer letters", EdgeTreeTest::fewerLetters);
        CHECKS.test("promise 8: INVALID also if i is negative", EdgeTreeTest::negativeLetter);
        CHECKS.test("promise 9: parent, no such node", () -> Wrong.nodes(CHECKS, "parent", RateLimiter::parent));
        CHECKS.test("promise 9: NONE for the root", EdgeTreeTest::parentOfRoot);
        CHECKS.test("promise 10: child, no such node", () -> Wrong.nodes(CHECKS, "child", (x, node) -> x.child(node, 0)));
        CHECKS.test("promise 10: INVALID also if k is negative", EdgeTreeTest::negativeChild);
        CHECKS.test("promise 10: NONE if there are not so many", EdgeTreeTest::notSoManyChildren);
        CHECKS.test("promise 10: eleven children are the most", EdgeTreeTest::elevenChildren);
        CHECKS.test("promise 11: isLeaf is false if there is no such node", EdgeTreeTest::noLeaf);
        CHECKS.test("promise 11: a leaf gets its first child, in the last place", EdgeTreeTest::lastChildMakesInner);
        CHECKS.test("promise 12: depth, no such node", () -> Wrong.nodes(CHECKS, "depth", RateLimiter::depth));
        CHECKS.test("promise 12: depths 0 to 11", EdgeTreeTest::depths);
        CHECKS.test("promise 13: rate, no such node", () -> Wrong.nodes(CHECKS, "rate", RateLimiter::rate));
        CHECKS.test("promise 13: rate 0 and 99", () -> setting(RateLimiter::rate, 0, 99));
        CHECKS.test("promise 14: ceiling, no such node", () -> Wrong.nodes(CHECKS, "ceiling", RateLimiter::ceiling));
        CHECKS.test("promise 14: ceiling 0 and 999", () -> setting(RateLimiter::ceiling, 0, 999));
        CHECKS.test("promise 15: burst, no such node", () -> Wrong.nodes(CHECKS, "burst", RateLimiter::burst));
        CHECKS.test("promise 15: burst 1 and 999", () -> setting(RateLimiter::burst, 1, 999));
        CHECKS.test("promise 16: creditLimit, no such node", () -> Wrong.nodes(CHECKS, "creditLimit", RateLimiter::creditLimit));
        CHECKS.test("promise 16: creditLimit 0 and 999", () -> setting(RateLimiter::creditLimit, 0, 999));
        CHECKS.test("promise 17: weight, no such node", () -> Wrong.nodes(CHECKS, "weight", RateLimiter::weight));
        CHECKS.test("promise 17: weight 1 and 9", () -> setting(RateLimiter::weight, 1, 9));
        CHECKS.test("promise 18: priority, no such node", () -> Wrong.nodes(CHECKS, "priority", RateLimiter::priority));
        CHECKS.test("promise 18: priority 0 and 7", () -> setting(RateLimiter::priority, 0, 7));
        CHECKS.test("promise 19: mayBorrow is false if there is no such node", EdgeTreeTest::noNodeBorrows);
        CHECKS.test("promise 19: only the node with alone may not borrow", EdgeTreeTest::whoBorrows);
        CHECKS.test("promise 20: isOversubscribed is false if there is no such node", EdgeTreeTest::noNodeOversubscribed);
        CHECKS.test("promise 20: the rates exceed the own rate, equal is not enough", EdgeTreeTest::oversubscribedByOne);
        CHECKS.test("promise 20: a node without children, with rate 0 too", EdgeTreeTest::leafNotOversubscribed);
        CHECKS.test("promise 20: the rates of children, not of their children", EdgeTreeTest::grandchildrenDoNotCount);
        CHECKS.test("promise 21: pathCeiling, no such node", () -> Wrong.nodes(CHECKS, "pathCeiling", RateLimiter::pathCeiling));
        CHECKS.test("promise 21: the least ceiling at either end or between", EdgeTreeTest::leastCeilings);
        CHECKS.test("promise 21: the ceilings 0 and 999", EdgeTreeTest::ceilingEdges);
        CHECKS.finish();
    }

    private static void setting(Wrong.Ask ask, int least, int greatest) {
        CHECKS.due("the least", ask.of(Checks.loaded(LEAST), 0), least);
        CHECKS.due("the greatest", ask.of(Checks.loaded(GREATEST), 0), greatest);
        RateLimiter x = Checks.loaded(Wrong.twelve() + "limit 1;");
        RateLimiter y = Checks.loaded(Wrong.twelve().replace("node l in a;", GREATEST.replace("node a", "node l in a")));
        CHECKS.due("the greatest, of the last node", ask.of(y, 11), greatest);
        CHECKS.due("of the node before it", ask.of(y, 10), ask.of(x, 10));
    }

    /** A chain of so many nodes, of which each may lend to the one below it. */
    private static String chain(int nodes, String settings) {
        StringBuilder text = new StringBuilder("node a").append(settings).append(';');
        for (int i = 1; i < nodes; i++) {
            text.append("node ").append((char) ('a' + i)).append(" in ").append((char) ('a' + i - 1));
            text.append(settings).append(';');
        }
        return text.toString();
    }

    private static void twelveNodes() {
        RateLimiter x = Checks.loaded(Wrong.twelve());
        CHECKS.due("nodeCount()", x.nodeCount(), 12);
        for (int node = 0; node < 12; node++) {
            CHECKS.due("nameLetter(" + node + ", 0)", x.nameLetter(node, 0), node + 1);
            CHECKS.due("burst(" + node + ")", x.burst(node), 10);
        }
        CHECKS.due("burst(12)", x.burst(12), INVALID);
        CHECKS.due("burst(-1)", x.burst(-1), INVALID);
    }

    private static void smallerParents() {
        RateLimiter x = Checks.loaded("node a;node b in a;node c in a;node d in c;node e in d;node f in a;");
        int[] parents = {NONE, 0, 0, 2, 3, 0};
        for (int node = 0; node < 6; node++) {
            CHECKS.due("parent(" + node + ")", x.parent(node), parents[node]);
        }
    }

    private static void childrenInOrder() {
        RateLimiter x = Checks.loaded("node z;node y in z;node b in y;node x in z;node a in y;node c in z;");
        int[][] children = {{1, 3, 5}, {2, 4}};
        for (int node = 0; node < 2; node++) {
            for (int k = 0; k < children[node].length; k++) {
                CHECKS.due("child(" + node + ", " + k + ")", x.child(node, k), children[node][k]);
            }
        }
    }

    private static void onlyNode() {
        RateLimiter x = Checks.loaded("node a;");
        CHECKS.due("isLeaf(0)", x.isLeaf(0), true);
        CHECKS.due("lender(0, 1)", x.lender(0, 1), 0);
        CHECKS.due("queueLength(0)", x.queueLength(0), 0);
        RateLimiter y = Checks.loaded("node a;node b in a;");
        CHECKS.due("isLeaf(0) of two", y.isLeaf(0), false);
        CHECKS.due("isLeaf(1) of two", y.isLeaf(1), true);
        CHECKS.due("lender(0, 1) of two", y.lender(0, 1), INVALID);
        CHECKS.due("queueLength(0) of two", y.queueLength(0), INVALID);
    }

    private static void pathEnds() {
        RateLimiter x = Checks.loaded("node a burst 5;node b in a burst 9;node c in b burst 7;");
        CHECKS.due("blockingNode(2, 6), the root", x.blockingNode(2, 6), 0);
        CHECKS.due("blockingNode(2, 8), the leaf", x.blockingNode(2, 8), 2);
        CHECKS.due("acquire(2, 1), distance to itself", x.acquire(2, 1), 0);
        CHECKS.due("headroom(0)", x.headroom(0), 4);
        CHECKS.due("headroom(2)", x.headroom(2), 6);
    }

    private static void longestPath() {
        RateLimiter x = Checks.loaded(chain(12, " rate 0 ceiling 99 burst 9"));
        x.acquire(11, 9);
        CHECKS.due("blockingNode(11, 1), all", x.blockingNode(11, 1), 11);
        x.setRate(0, 5);
        CHECKS.due("waitTime(11, 9), the root's tokens", x.waitTime(11, 9), 2);
        x.setRate(0, 9);
        x.advance(1);
        CHECKS.due("lender(11, 9)", x.lender(11, 9), 0);
        CHECKS.due("acquire(11, 9)", x.acquire(11, 9), 11);
        for (int node = 0; node < 12; node++) {
            CHECKS.due("headroom(" + node + ")", x.headroom(node), 0);
        }
        RateLimiter y = Checks.loaded(chain(12, " burst 9").replace("node a burst 9;", "node a burst 8;"));
        CHECKS.due("blockingNode(11, 9), the root", y.blockingNode(11, 9), 0);
        CHECKS.due("refusal(11, 9), the root's headroom", y.refusal(11, 9), 1);
        CHECKS.due("lender(11, 9)", y.lender(11, 9), NONE);
        CHECKS.due("waitTime(11, 9), the root's burst", y.waitTime(11, 9), NONE);
        CHECKS.due("repeats(11, 1)", y.repeats(11, 1), 8);
        CHECKS.due("greatestCost(11)", y.greatestCost(11), 8);
    }

    private static void rootAlone() {
        String rest = "node b in a rate 0 ceiling 20 burst 20;node c in a rate 0 ceiling 20 burst 20 alone;";
        RateLimiter alone = Checks.loaded("node a rate 30 ceiling 30 burst 30 alone;" + rest);
        RateLimiter other = Checks.loaded("node a rate 30 ceiling 30 burst 30;" + rest);
        for (RateLimiter x : new RateLimiter[] {alone, other}) {
            CHECKS.due("acquire(1, 20)", x.acquire(1, 20), 0);
            x.advance(1);
            CHECKS.due("acquire(1, 20), from the root", x.acquire(1, 20), 1);
            CHECKS.due("greatestCost(1)", x.greatestCost(1), 0);
            CHECKS.due("refusal(1, 1)", x.refusal(1, 1), 1);
            CHECKS.due("waitTime(1, 20)", x.waitTime(1, 20), 1);
            CHECKS.due("repeats(2, 1)", x.repeats(2, 1), 10);
        }
        RateLimiter only = Checks.loaded("node a burst 9 alone;");
        CHECKS.due("lender(0, 9)", only.lender(0, 9), 0);
        CHECKS.due("lender(0, 10)", only.lender(0, 10), NONE);
    }

    private static void nodeCounts() {
        CHECKS.due("of a new object", new RateLimiter().nodeCount(), 0);
        CHECKS.due("without nodes", Checks.loaded("age 5;").nodeCount(), 0);
        CHECKS.due("of one node", Checks.loaded("node a;").nodeCount(), 1);
        CHECKS.due("of twelve nodes", Checks.loaded(Wrong.twelve()).nodeCount(), 12);
    }

    private static void nodeCountStays() {
        RateLimiter x = Checks.loaded("node a;node b in a;");
        Checks.load(x, "node c;!");
        CHECKS.due("after a fault", x.nodeCount(), 2);
        Checks.load(x, "");
        CHECKS.due("after a load of nothing", x.nodeCount(), 0);
        Checks.load(x, Wrong.twelve() + "node");
        CHECKS.due("after a fault at a 13th node", x.nodeCount(), 0);
    }

    private static void letterRange() {
        for (char letter = 'a'; letter <= 'z'; letter++) {
            RateLimiter x = Checks.loaded("node x" + letter + "xxxxx" + letter + ";");
            CHECKS.due("nameLetter(0, 1)", x.nameLetter(0, 1), letter - 'a' + 1);
            CHECKS.due("nameLetter(0, 7)", x.nameLetter(0, 7), letter - 'a' + 1);
            CHECKS.due("nameLetter(0, 6)", x.nameLetter(0, 6), 24);
        }
    }

    private static void fewerLetters() {
        String name = "zzzzzzzz";
        for (int letters = 1; letters <= 8; letters++) {
            RateLimiter x = Checks.loaded("node " + name.substring(0, letters) + ";");
            for (int i = 0; i < 12; i++) {
                CHECKS.due("nameLetter(0, " + i + ") of " + letters, x.nameLetter(0, i), i < letters ? 26 : 0);
            }
            for (int i : FAR) {
                CHECKS.due("nameLetter(0, " + i + ") of " + letters, x.nameLetter(0, i), 0);
            }
            CHECKS.due("nameLetter(1, 0)", x.nameLetter(1, 0), INVALID);
            CHECKS.due("nameLetter(1, 9)", x.nameLetter(1, 9), INVALID);
        }
    }

    private static void negativeLetter() {
        RateLimiter x = Checks.loaded("node abcdefgh;node b in abcdefgh;");
        for (int i : NEGATIVE) {
            CHECKS.due("nameLetter(0, " + i + ")", x.nameLetter(0, i), INVALID);
            CHECKS.due("nameLetter(1, " + i + ")", x.nameLetter(1, i), INVALID);
            CHECKS.due("nameLetter(2, " + i + ")", x.nameLetter(2, i), INVALID);
        }
    }

    private static void parentOfRoot() {
        CHECKS.due("of one node", Checks.loaded("node a;").parent(0), NONE);
        RateLimiter x = Checks.loaded(Wrong.twelve());
        CHECKS.due("of twelve nodes", x.parent(0), NONE);
        CHECKS.due("parent(1)", x.parent(1), 0);
        CHECKS.due("parent(11)", x.parent(11), 0);
    }

    private static void negativeChild() {
        RateLimiter x = Checks.loaded("node a;node b in a;");
        for (int k : NEGATIVE) {
            CHECKS.due("child(0, " + k + ")", x.child(0, k), INVALID);
            CHECKS.due("child(1, " + k + "), a leaf", x.child(1, k), INVALID);
            CHECKS.due("child(2, " + k + "), no node", x.child(2, k), INVALID);
        }
    }

    private static void notSoManyChildren() {
        RateLimiter x = Checks.loaded("node a;node b in a;node c in a;node d in b;");
        CHECKS.due("child(0, 1)", x.child(0, 1), 2);
        CHECKS.due("child(0, 2)", x.child(0, 2), NONE);
        CHECKS.due("child(1, 0)", x.child(1, 0), 3);
        CHECKS.due("child(1, 1)", x.child(1, 1), NONE);
        CHECKS.due("child(2, 0)", x.child(2, 0), NONE);
        CHECKS.due("child(3, 0)", x.child(3, 0), NONE);
        for (int k : FAR) {
            CHECKS.due("child(0, " + k + ")", x.child(0, k), NONE);
            CHECKS.due("child(3, " + k + ")", x.child(3, k), NONE);
            CHECKS.due("child(4, " + k + ")", x.child(4, k), INVALID);
        }
    }

    private static void elevenChildren() {
        RateLimiter x = Checks.loaded(Wrong.twelve());
        CHECKS.due("child(0, 0)", x.child(0, 0), 1);
        CHECKS.due("child(0, 10)", x.child(0, 10), 11);
        CHECKS.due("child(0, 11)", x.child(0, 11), NONE);
        CHECKS.due("child(11, 0)", x.child(11, 0), NONE);
    }

    private static void noLeaf() {
        Wrong.noNode(CHECKS, "isLeaf", RateLimiter::isLeaf);
        RateLimiter x = Checks.loaded(Wrong.twelve());
        CHECKS.due("isLeaf(0)", x.isLeaf(0), false);
        CHECKS.due("isLeaf(11)", x.isLeaf(11), true);
    }

    private static void lastChildMakesInner() {
        String eleven = Wrong.twelve().substring(0, Wrong.twelve().indexOf("node l"));
        CHECKS.due("isLeaf(10) of eleven", Checks.loaded(eleven).isLeaf(10), true);
        RateLimiter x = Checks.loaded(eleven + "node l in k;");
        CHECKS.due("isLeaf(10) of twelve", x.isLeaf(10), false);
        CHECKS.due("isLeaf(11) of twelve", x.isLeaf(11), true);
        Checks.load(x, eleven);
        CHECKS.due("isLeaf(10) of eleven again", x.isLeaf(10), true);
    }

    private static void depths() {
        RateLimiter x = Checks.loaded(chain(12, ""));
        for (int node = 0; node < 12; node++) {
            CHECKS.due("depth(" + node + ")", x.depth(node), node);
        }
        RateLimiter y = Checks.loaded(Wrong.twelve());
        CHECKS.due("depth(0)", y.depth(0), 0);
        CHECKS.due("depth(11)", y.depth(11), 1);
    }

    private static void noNodeBorrows() {
        Wrong.noNode(CHECKS, "mayBorrow", RateLimiter::mayBorrow);
    }

    private static void whoBorrows() {
        RateLimiter x = Checks.loaded("node a;node b in a alone;node c in a rate 5;node d in b rate 2 alone weight 3;");
        boolean[] may = {true, false, true, false};
        for (int node = 0; node < 4; node++) {
            CHECKS.due("mayBorrow(" + node + ")", x.mayBorrow(node), may[node]);
        }
    }

    private static void noNodeOversubscribed() {
        Wrong.noNode(CHECKS, "isOversubscribed", RateLimiter::isOversubscribed);
    }

    private static void oversubscribedByOne() {
        RateLimiter x = Checks.loaded("node a rate 9;node b in a rate 4;node c in a rate 5;");
        CHECKS.due("9 of 9", x.isOversubscribed(0), false);
        x.setRate(2, 6);
        CHECKS.due("10 of 9", x.isOversubscribed(0), true);
        x.setRate(0, 10);
        CHECKS.due("10 of 10", x.isOversubscribed(0), false);
        x.setRate(1, 0);
        x.setRate(2, 0);
        x.setRate(0, 0);
        CHECKS.due("0 of 0", x.isOversubscribed(0), false);
        x.setRate(2, 1);
        CHECKS.due("1 of 0", x.isOversubscribed(0), true);
        RateLimiter y = Checks.loaded("node a rate 99;" + Wrong.twelve().substring(7).replace(" in a", " in a rate 9"));
        CHECKS.due("eleven times 9 of 99", y.isOversubscribed(0), false);
        y.setRate(11, 10);
        CHECKS.due("100 of 99", y.isOversubscribed(0), true);
    }

    private static void leafNotOversubscribed() {
        RateLimiter x = Checks.loaded("node a rate 0;");
        CHECKS.due("the only node, rate 0", x.isOversubscribed(0), false);
        RateLimiter y = Checks.loaded("node a rate 9;node b in a rate 0;node c in a rate 9;");
        CHECKS.due("a leaf with rate 0", y.isOversubscribed(1), false);
        CHECKS.due("a leaf with rate 9", y.isOversubscribed(2), false);
    }

    private static void grandchildrenDoNotCount() {
        RateLimiter x = Checks.loaded("node a rate 5;node b in a rate 5;node c in b rate 99;");
        CHECKS.due("isOversubscribed(0)", x.isOversubscribed(0), false);
        CHECKS.due("isOversubscribed(1)", x.isOversubscribed(1), true);
    }

    private static void leastCeilings() {
        RateLimiter x = Checks.loaded("node a ceiling 5;node b in a ceiling 5;node c in b ceiling 5;node d in a ceiling 1;");
        CHECKS.due("all equal", x.pathCeiling(2), 5);
        for (int node = 0; node < 3; node++) {
            x.setCeiling(node, 4);
            CHECKS.due("the least at " + node, x.pathCeiling(2), 4);
            CHECKS.due("of the root", x.pathCeiling(0), node == 0 ? 4 : 5);
            x.setCeiling(node, 5);
        }
        x.setCeiling(2, 0);
        CHECKS.due("a node below does not count", x.pathCeiling(1), 5);
        CHECKS.due("a node beside does not count", x.pathCeiling(0), 5);
    }

    private static void ceilingEdges() {
        RateLimiter x = Checks.loaded(chain(12, " ceiling 999"));
        CHECKS.due("all 999", x.pathCeiling(11), 999);
        x.setCeiling(0, 0);
        CHECKS.due("0 at the root, of the last node", x.pathCeiling(11), 0);
        CHECKS.due("0 at the root, of the root", x.pathCeiling(0), 0);
        x.setCeiling(0, 999);
        x.setCeiling(11, 998);
        CHECKS.due("998 at the leaf", x.pathCeiling(11), 998);
        CHECKS.due("of the node above", x.pathCeiling(10), 999);
    }
}
