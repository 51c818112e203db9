/** The edges that promises 58 and 59 of the document name: the setup as text. */
final class EdgeTextTest {
    private static final Checks CHECKS = new Checks("EdgeTextTest");
    private static final int INVALID = RateLimiter.INVALID;
    private static final int NONE = RateLimiter.NONE;
    private static final String PLAIN = " rate 1 ceiling 1 burst 10 credit 0 weight 1 priority 0";

    public static void main(String[] args) {
        CHECKS.test("promise 58: without nodes", EdgeTextTest::withoutNodes);
        CHECKS.test("promise 58: the shortest and the longest text", EdgeTextTest::longest);
        CHECKS.test("promise 58: no in for the root, one for all others", EdgeTextTest::inForOthers);
        CHECKS.test("promise 58: the least and the greatest settings", EdgeTextTest::settingEdges);
        CHECKS.test("promise 58: alone if the node may not borrow, the root too", EdgeTextTest::alone);
        CHECKS.test("promise 58: limit 0, 10 without it, 99", EdgeTextTest::limits);
        CHECKS.test("promise 58: no age without it, age 0, age 999", EdgeTextTest::ages);
        CHECKS.test("promise 58: changes of a time greater than the present one", EdgeTextTest::changesToCome);
        CHECKS.test("promise 58: changes in the order of the text, twelve", EdgeTextTest::changesInOrder);
        CHECKS.test("promise 58: present rates, ceilings and weights", EdgeTextTest::presentValues);
        CHECKS.test("promise 58: numbers without leading zeros", EdgeTextTest::numbers);
        CHECKS.test("promise 59: INVALID if i is negative", EdgeTextTest::negative);
        CHECKS.test("promise 59: NONE if there is no such byte", EdgeTextTest::noSuchByte);
        CHECKS.test("promise 59: after a load with a fault, of the setup before", EdgeTextTest::afterFault);
        CHECKS.test("promises 58 and 59: the text that is read again is the same", EdgeTextTest::readAgain);
        CHECKS.test("promises 58 and 59: asking changes nothing", EdgeTextTest::askingChangesNothing);
        CHECKS.finish();
    }

    /** Asks for each byte once; the longest text has more bytes than an object gets calls. */
    private static void due(RateLimiter x, String text) {
        CHECKS.due("setupLength() of '" + text + "'", x.setupLength(), text.length());
        StringBuilder found = new StringBuilder();
        for (int i = 0; i < text.length(); i++) {
            found.append((char) x.setupByte(i));
        }
        CHECKS.due("setupByte()", found.toString(), text);
        CHECKS.due("setupByte(length)", x.setupByte(text.length()), NONE);
    }

    private static void withoutNodes() {
        due(new RateLimiter(), "limit 10;");
        due(Checks.loaded(""), "limit 10;");
        due(Checks.loaded("age 0;limit 0;"), "limit 0;age 0;");
    }

    private static void longest() {
        due(Checks.loaded("limit 5;"), "limit 5;");
        StringBuilder read = new StringBuilder("node aaaaaaaa;");
        StringBuilder written = new StringBuilder("node aaaaaaaa" + PLAIN + ";");
        for (int i = 1; i < 12; i++) {
            String start = "node aaaaaaa" + (char) ('a' + i) + " in aaaaaaaa";
            read.append(start).append(" rate 99 alone burst 999;");
            written.append(start).append(" rate 99 ceiling 99 burst 999 credit 0 weight 1 priority 0 alone;");
        }
        read.append("age 999;").append("at 5000 aaaaaaaa rate 99;".repeat(11));
        written.append("limit 10;age 999;").append("at 5000 aaaaaaaa rate 99;".repeat(11));
        String text = written.toString();
        for (int part = 0; part < text.length(); part += 400) {
            RateLimiter x = Checks.loaded(read.toString());
            CHECKS.due("setupLength()", x.setupLength(), text.length());
            for (int i = part; i < Math.min(part + 400, text.length()); i++) {
                CHECKS.due("setupByte(" + i + ")", x.setupByte(i), text.charAt(i));
            }
            CHECKS.due("setupByte(length)", x.setupByte(text.length()), NONE);
        }
    }

    private static void inForOthers() {
        due(Checks.loaded("node a;"), "node a" + PLAIN + ";limit 10;");
        due(Checks.loaded("node a;node b in a;node c in b;"),
                "node a" + PLAIN + ";node b in a" + PLAIN + ";node c in b" + PLAIN + ";limit 10;");
    }

    private static void settingEdges() {
        String least = "node abcdefgh rate 0 ceiling 0 burst 1 credit 0 weight 1 priority 0;limit 10;";
        due(Checks.loaded(least), least);
        String greatest = "node z rate 99 ceiling 999 burst 999 credit 999 weight 9 priority 7 alone;limit 10;";
        due(Checks.loaded(greatest), greatest);
    }

    private static void alone() {
        due(Checks.loaded("node a alone;node b in a;node c in a alone;"),
                "node a" + PLAIN + " alone;node b in a" + PLAIN + ";node c in a" + PLAIN + " alone;limit 10;");
    }

    private static void limits() {
        due(Checks.loaded("limit 0;"), "limit 0;");
        due(Checks.loaded("limit 1;"), "limit 1;");
        due(Checks.loaded("limit 10;"), "limit 10;");
        due(Checks.loaded("limit 99;"), "limit 99;");
    }

    private static void ages() {
        due(Checks.loaded("limit 7;"), "limit 7;");
        due(Checks.loaded("limit 7;age 0;"), "limit 7;age 0;");
        due(Checks.loaded("age 999;limit 7;"), "limit 7;age 999;");
        RateLimiter x = Checks.loaded("age 5;");
        Checks.load(x, "limit 3;");
        due(x, "limit 3;");
    }

    private static void changesToCome() {
        String text = "at 1 a weight 1;at 5000 a ceiling 1;at 2 a rate 1;";
        RateLimiter x = Checks.loaded("node a;" + text);
        String start = "node a" + PLAIN + ";limit 10;";
        due(x, start + text);
        x.advance(1);
        due(x, start + "at 5000 a ceiling 1;at 2 a rate 1;");
        x.advance(1);
        due(x, start + "at 5000 a ceiling 1;");
        RateLimiter y = Checks.loaded("node a;" + text);
        y.save(1);
        for (int i = 0; i < 9; i++) {
            y.advance(500);
        }
        y.advance(499);
        due(y, start + "at 5000 a ceiling 1;");
        y.advance(1);
        due(y, start);
        y.restore(1);
        due(y, start + text);
    }

    private static void changesInOrder() {
        StringBuilder text = new StringBuilder();
        for (int i = 0; i < 12; i++) {
            text.append("at ").append(i % 3 == 0 ? 30 - i : 3 + i).append(i % 2 == 0 ? " a " : " b ");
            text.append(new String[] {"rate ", "ceiling ", "weight "}[i % 3]).append(i % 3 == 2 ? 9 : 99).append(';');
        }
        RateLimiter x = Checks.loaded("node a;node b in a;" + text);
        due(x, "node a" + PLAIN + ";node b in a" + PLAIN + ";limit 10;" + text);
    }

    private static void presentValues() {
        RateLimiter x = Checks.loaded("node a;node b in a;at 1 b rate 0;at 1 a ceiling 999;at 1 a weight 9;");
        x.setRate(0, 99);
        x.setCeiling(1, 0);
        x.setWeight(1, 2);
        x.advance(1);
        due(x, "node a rate 99 ceiling 999 burst 10 credit 0 weight 9 priority 0;"
                + "node b in a rate 0 ceiling 0 burst 10 credit 0 weight 2 priority 0;limit 10;");
    }

    private static void numbers() {
        due(Checks.loaded("node a rate 0009 ceiling 0010 burst 0099 credit 0100 weight 0001 priority 0000;limit 0001;"
                + "age 0009;at 0010 a rate 0000;at 0099 a rate 01;at 0100 a rate 10;at 0999 a rate 9;at 1000 a rate 1;"),
                "node a rate 9 ceiling 10 burst 99 credit 100 weight 1 priority 0;limit 1;age 9;at 10 a rate 0;"
                + "at 99 a rate 1;at 100 a rate 10;at 999 a rate 9;at 1000 a rate 1;");
    }

    private static void negative() {
        for (RateLimiter x : new RateLimiter[] {new RateLimiter(), Checks.loaded("node a;")}) {
            for (int i : new int[] {-1, -2, -9, Integer.MIN_VALUE}) {
                CHECKS.due("setupByte(" + i + ")", x.setupByte(i), INVALID);
            }
        }
    }

    private static void noSuchByte() {
        RateLimiter x = new RateLimiter();
        CHECKS.due("setupByte(0)", x.setupByte(0), 'l');
        CHECKS.due("setupByte(8)", x.setupByte(8), ';');
        for (int i : new int[] {9, 10, 900, 5000, Integer.MAX_VALUE}) {
            CHECKS.due("setupByte(" + i + ")", x.setupByte(i), NONE);
        }
        RateLimiter y = Checks.loaded("node a;");
        CHECKS.due("setupByte(length - 1)", y.setupByte(y.setupLength() - 1), ';');
        CHECKS.due("setupByte(length)", y.setupByte(y.setupLength()), NONE);
        CHECKS.due("setupByte(MAX)", y.setupByte(Integer.MAX_VALUE), NONE);
    }

    private static void afterFault() {
        RateLimiter x = Checks.loaded("node a;limit 5;age 6;at 7 a rate 8;");
        Checks.load(x, "node b rate 9;limit 1;age 2;at 3 b rate 4;at 5 b weight 10;");
        due(x, "node a" + PLAIN + ";limit 5;age 6;at 7 a rate 8;");
    }

    private static void readAgain() {
        String text = "node a rate 9 ceiling 99 burst 999 credit 5 weight 2 priority 1 alone;"
                + "node bb in a rate 0 ceiling 0 burst 1 credit 0 weight 1 priority 0;limit 0;age 0;at 5000 bb weight 9;";
        due(Checks.loaded(text), text);
    }

    private static void askingChangesNothing() {
        Twins.unchanged(CHECKS, "the setup text", x -> {
            for (int i : new int[] {-1, 0, 5, 100, 900, Integer.MAX_VALUE}) {
                x.setupByte(i);
                x.setupLength();
            }
        });
    }
}
