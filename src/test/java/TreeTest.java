/** Promises 7 to 21: the tree. */
final class TreeTest {
    private static final Checks CHECKS = new Checks("TreeTest");
    private static final int INVALID = RateLimiter.INVALID;
    private static final int NONE = RateLimiter.NONE;

    private static final String TREE = "node root rate 9 ceiling 90 burst 50 credit 40 weight 2 priority 1 alone;"
            + "node mid in root rate 4 ceiling 100;"
            + "node leafa in root rate 5 ceiling 20 burst 999 credit 999 weight 9 priority 7;"
            + "node leafb in mid rate 99 ceiling 999 burst 1 weight 3 alone;"
            + "node z in mid rate 0;"
            + "node abcdefgh in root rate 1;";

    public static void main(String[] args) {
        names();
        shape();
        settings();
        defaults();
        noSuchNode();
        oneNode();
        chain();
        oversubscribed();
        CHECKS.finish();
    }

    private static void names() {
        RateLimiter x = Checks.loaded(TREE);
        CHECKS.due("nodeCount()", x.nodeCount(), 6);
        String[] names = {"root", "mid", "leafa", "leafb", "z", "abcdefgh"};
        for (int node = 0; node < names.length; node++) {
            for (int i = 0; i < 12; i++) {
                int letter = i < names[node].length() ? names[node].charAt(i) - 'a' + 1 : 0;
                CHECKS.due("nameLetter(" + node + ", " + i + ")", x.nameLetter(node, i), letter);
            }
            CHECKS.due("nameLetter(node, MAX)", x.nameLetter(node, Integer.MAX_VALUE), 0);
            CHECKS.due("nameLetter(node, -1)", x.nameLetter(node, -1), INVALID);
            CHECKS.due("nameLetter(node, MIN)", x.nameLetter(node, Integer.MIN_VALUE), INVALID);
        }
        CHECKS.due("nameLetter(4, 0)", x.nameLetter(4, 0), 26);
    }

    private static void shape() {
        RateLimiter x = Checks.loaded(TREE);
        int[] parents = {NONE, 0, 0, 1, 1, 0};
        int[] depths = {0, 1, 1, 2, 2, 1};
        boolean[] leaves = {false, false, true, true, true, true};
        for (int node = 0; node < 6; node++) {
            CHECKS.due("parent(" + node + ")", x.parent(node), parents[node]);
            CHECKS.due("depth(" + node + ")", x.depth(node), depths[node]);
            CHECKS.due("isLeaf(" + node + ")", x.isLeaf(node), leaves[node]);
        }
        int[][] children = {{1, 2, 5}, {3, 4}, {}, {}, {}, {}};
        for (int node = 0; node < 6; node++) {
            for (int k = 0; k < 5; k++) {
                int child = k < children[node].length ? children[node][k] : NONE;
                CHECKS.due("child(" + node + ", " + k + ")", x.child(node, k), child);
            }
            CHECKS.due("child(node, MAX)", x.child(node, Integer.MAX_VALUE), NONE);
            CHECKS.due("child(node, -1)", x.child(node, -1), INVALID);
            CHECKS.due("child(node, MIN)", x.child(node, Integer.MIN_VALUE), INVALID);
        }
    }

    private static void settings() {
        RateLimiter x = Checks.loaded(TREE);
        int[][] values = {{9, 90, 50, 40, 2, 1, 0, 90}, {4, 100, 10, 0, 1, 0, 1, 90}, {5, 20, 999, 999, 9, 7, 1, 20},
            {99, 999, 1, 0, 3, 0, 0, 90}, {0, 0, 10, 0, 1, 0, 1, 0}, {1, 1, 10, 0, 1, 0, 1, 1}};
        for (int node = 0; node < 6; node++) {
            CHECKS.due("rate(" + node + ")", x.rate(node), values[node][0]);
            CHECKS.due("ceiling(" + node + ")", x.ceiling(node), values[node][1]);
            CHECKS.due("burst(" + node + ")", x.burst(node), values[node][2]);
            CHECKS.due("creditLimit(" + node + ")", x.creditLimit(node), values[node][3]);
            CHECKS.due("weight(" + node + ")", x.weight(node), values[node][4]);
            CHECKS.due("priority(" + node + ")", x.priority(node), values[node][5]);
            CHECKS.due("mayBorrow(" + node + ")", x.mayBorrow(node), values[node][6] == 1);
            CHECKS.due("pathCeiling(" + node + ")", x.pathCeiling(node), values[node][7]);
        }
    }

    private static void defaults() {
        RateLimiter x = Checks.loaded("node a;node b in a ceiling 3;node c in a burst 2 rate 7;");
        CHECKS.due("rate(0)", x.rate(0), 1);
        CHECKS.due("ceiling(0)", x.ceiling(0), 1);
        CHECKS.due("burst(0)", x.burst(0), 10);
        CHECKS.due("creditLimit(0)", x.creditLimit(0), 0);
        CHECKS.due("weight(0)", x.weight(0), 1);
        CHECKS.due("priority(0)", x.priority(0), 0);
        CHECKS.due("mayBorrow(0)", x.mayBorrow(0), true);
        CHECKS.due("rate(1)", x.rate(1), 1);
        CHECKS.due("ceiling(1)", x.ceiling(1), 3);
        CHECKS.due("ceiling(2)", x.ceiling(2), 7);
        x.setRate(2, 9);
        CHECKS.due("ceiling(2) after setRate", x.ceiling(2), 7);
        CHECKS.due("burst(2)", x.burst(2), 2);
    }

    private static void noSuchNode() {
        RateLimiter[] limiters = {new RateLimiter(), Checks.loaded(TREE)};
        for (RateLimiter x : limiters) {
            for (int node : new int[] {-1, -2, x.nodeCount(), 12, Integer.MAX_VALUE, Integer.MIN_VALUE}) {
                CHECKS.due("nameLetter", x.nameLetter(node, 0), INVALID);
                CHECKS.due("parent", x.parent(node), INVALID);
                CHECKS.due("child", x.child(node, 0), INVALID);
                CHECKS.due("isLeaf", x.isLeaf(node), false);
                CHECKS.due("depth", x.depth(node), INVALID);
                CHECKS.due("rate", x.rate(node), INVALID);
                CHECKS.due("ceiling", x.ceiling(node), INVALID);
                CHECKS.due("burst", x.burst(node), INVALID);
                CHECKS.due("creditLimit", x.creditLimit(node), INVALID);
                CHECKS.due("weight", x.weight(node), INVALID);
                CHECKS.due("priority", x.priority(node), INVALID);
                CHECKS.due("mayBorrow", x.mayBorrow(node), false);
                CHECKS.due("isOversubscribed", x.isOversubscribed(node), false);
                CHECKS.due("pathCeiling", x.pathCeiling(node), INVALID);
            }
        }
    }

    private static void oneNode() {
        RateLimiter x = Checks.loaded("node a;");
        CHECKS.due("isLeaf(0)", x.isLeaf(0), true);
        CHECKS.due("parent(0)", x.parent(0), NONE);
        CHECKS.due("child(0, 0)", x.child(0, 0), NONE);
        CHECKS.due("isOversubscribed(0)", x.isOversubscribed(0), false);
    }

    private static void chain() {
        StringBuilder text = new StringBuilder("node a ceiling 999;");
        for (int i = 1; i < 12; i++) {
            text.append("node ").append((char) ('a' + i)).append(" in ").append((char) ('a' + i - 1));
            text.append(" ceiling ").append(999 - i).append(';');
        }
        RateLimiter x = Checks.loaded(text.toString());
        for (int node = 0; node < 12; node++) {
            CHECKS.due("depth(" + node + ")", x.depth(node), node);
            CHECKS.due("isLeaf(" + node + ")", x.isLeaf(node), node == 11);
            CHECKS.due("pathCeiling(" + node + ")", x.pathCeiling(node), 999 - node);
        }
    }

    private static void oversubscribed() {
        RateLimiter x = Checks.loaded("node a rate 5;node b in a rate 3;node c in a rate 2;node d in b rate 4;");
        CHECKS.due("isOversubscribed(0), equal", x.isOversubscribed(0), false);
        CHECKS.due("isOversubscribed(1)", x.isOversubscribed(1), true);
        CHECKS.due("isOversubscribed(3)", x.isOversubscribed(3), false);
        x.setRate(2, 3);
        CHECKS.due("isOversubscribed(0) after setRate", x.isOversubscribed(0), true);
        x.setRate(0, 6);
        CHECKS.due("isOversubscribed(0) after setRate", x.isOversubscribed(0), false);
    }
}
