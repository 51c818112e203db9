/** Promises 58 and 59: setupLength and setupByte. */
final class TextTest {
    private static final Checks CHECKS = new Checks("TextTest");
    private static final int INVALID = RateLimiter.INVALID;
    private static final int NONE = RateLimiter.NONE;

    public static void main(String[] args) {
        withoutNodes();
        allStatements();
        presentValues();
        timedChanges();
        longestText();
        CHECKS.finish();
    }

    private static void due(RateLimiter x, String text) {
        CHECKS.due("setupLength()", x.setupLength(), text.length());
        for (int i = 0; i < text.length(); i++) {
            CHECKS.due("setupByte(" + i + ") of '" + text + "'", x.setupByte(i), text.charAt(i));
        }
        CHECKS.due("setupByte(length)", x.setupByte(text.length()), NONE);
        CHECKS.due("setupByte(MAX)", x.setupByte(Integer.MAX_VALUE), NONE);
        CHECKS.due("setupByte(-1)", x.setupByte(-1), INVALID);
        CHECKS.due("setupByte(-2)", x.setupByte(-2), INVALID);
        CHECKS.due("setupByte(MIN)", x.setupByte(Integer.MIN_VALUE), INVALID);
    }

    private static void withoutNodes() {
        due(new RateLimiter(), "limit 10;");
        due(Checks.loaded("age 00;limit 07;"), "limit 7;age 0;");
        due(Checks.loaded("limit 0;"), "limit 0;");
    }

    private static void allStatements() {
        RateLimiter x = Checks.loaded("age 12;\n node  b alone;"
                + "node abcdefgh in b priority 7 weight 2 credit 100 burst 999 ceiling 10 rate 99;"
                + "at 20 b weight 3;limit 99;at 1000 abcdefgh rate 0;node c in abcdefgh rate 5;at 7 c ceiling 300;");
        due(x, "node b rate 1 ceiling 1 burst 10 credit 0 weight 1 priority 0 alone;"
                + "node abcdefgh in b rate 99 ceiling 10 burst 999 credit 100 weight 2 priority 7;"
                + "node c in abcdefgh rate 5 ceiling 5 burst 10 credit 0 weight 1 priority 0;"
                + "limit 99;age 12;at 20 b weight 3;at 1000 abcdefgh rate 0;at 7 c ceiling 300;");
    }

    private static void presentValues() {
        RateLimiter x = Checks.loaded("node a;node b in a alone;age 999;");
        x.setRate(0, 42);
        x.setCeiling(1, 777);
        x.setWeight(1, 9);
        due(x, "node a rate 42 ceiling 1 burst 10 credit 0 weight 1 priority 0;"
                + "node b in a rate 1 ceiling 777 burst 10 credit 0 weight 9 priority 0 alone;limit 10;age 999;");
    }

    private static void timedChanges() {
        String node = "node a rate 1 ceiling 1 burst 10 credit 0 weight 1 priority 0;limit 10;";
        RateLimiter x = Checks.loaded("node a;at 3 a rate 2;at 1 a rate 1;at 5000 a ceiling 9;at 2 a rate 1;");
        due(x, node + "at 3 a rate 2;at 1 a rate 1;at 5000 a ceiling 9;at 2 a rate 1;");
        x.advance(1);
        x.save(0);
        due(x, node + "at 3 a rate 2;at 5000 a ceiling 9;at 2 a rate 1;");
        x.advance(1);
        due(x, node + "at 3 a rate 2;at 5000 a ceiling 9;");
        x.advance(1);
        due(x, node.replace("rate 1", "rate 2") + "at 5000 a ceiling 9;");
        x.restore(0);
        due(x, node + "at 3 a rate 2;at 5000 a ceiling 9;at 2 a rate 1;");
        for (int i = 0; i < 9; i++) {
            x.advance(500);
        }
        x.advance(498);
        due(x, node.replace("rate 1", "rate 2") + "at 5000 a ceiling 9;");
        x.advance(1);
        due(x, node.replace("rate 1", "rate 2").replace("ceiling 1", "ceiling 9"));
    }

    /** The text that is written may be longer than any that can be read. */
    private static void longestText() {
        StringBuilder read = new StringBuilder("node aaaaaaaa;");
        StringBuilder written = new StringBuilder("node aaaaaaaa rate 1 ceiling 1 burst 10 credit 0 weight 1 priority 0;");
        for (int i = 1; i < 12; i++) {
            String name = "aaaaaaa" + (char) ('a' + i);
            read.append("node ").append(name).append(" in aaaaaaaa rate 99 alone burst 999;");
            written.append("node ").append(name).append(" in aaaaaaaa rate 99 ceiling 99 burst 999 credit 0 weight 1 ");
            written.append("priority 0 alone;");
        }
        written.append("limit 10;");
        for (int i = 0; i < 12; i++) {
            read.append("at 5000 aaaaaaaa rate 99;");
            written.append("at 5000 aaaaaaaa rate 99;");
        }
        due(Checks.loaded(read.toString()), written.toString());
    }
}
