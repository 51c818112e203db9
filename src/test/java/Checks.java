import java.nio.charset.StandardCharsets;

/** Compares answers with those that are due, and counts them. */
final class Checks {
    private final String title;
    private String sentence = "";
    private int passed = 0;
    private int failed = 0;

    Checks(String title) {
        this.title = title;
    }

    /** Runs the test of one sentence of the document. A test that compares nothing fails, and so does one that throws. */
    void test(String ofSentence, Runnable test) {
        sentence = " [" + ofSentence + "]";
        int before = passed + failed;
        try {
            test.run();
        } catch (RuntimeException thrown) {
            fail("the test threw " + thrown);
        }
        if (passed + failed == before) {
            fail("nothing was compared");
        }
        sentence = "";
    }

    private void fail(String why) {
        failed++;
        if (failed <= 50) {
            System.out.println(title + sentence + ": " + why);
        }
    }

    void due(String call, long got, long want) {
        if (got == want) {
            passed++;
        } else {
            fail(call + " answered " + got + ", due is " + want);
        }
    }

    void due(String call, boolean got, boolean want) {
        due(call, got ? 1 : 0, want ? 1 : 0);
    }

    void due(String call, String got, String want) {
        due(call + ": '" + got + "', due is '" + want + "': equal", got.equals(want), true);
    }

    boolean isClean() {
        return failed == 0;
    }

    void finish() {
        System.out.println(title + ": " + passed + " passed, " + failed + " failed");
        if (failed > 0) {
            System.exit(1);
        }
    }

    /** Feeds a text, whose characters are bytes, with spaces up to a multiple of 20, which are cut off again. */
    static void feed(RateLimiter limiter, String text) {
        byte[] bytes = text.getBytes(StandardCharsets.ISO_8859_1);
        int length = 0;
        for (int i = 0; i < bytes.length; i += 20) {
            length = limiter.feed(four(bytes, i), four(bytes, i + 4), four(bytes, i + 8), four(bytes, i + 12),
                    four(bytes, i + 16));
        }
        limiter.truncate(length - (20 - bytes.length % 20) % 20);
    }

    private static int four(byte[] bytes, int from) {
        int number = 0;
        for (int i = from; i < from + 4; i++) {
            number = number << 8 | (i < bytes.length ? bytes[i] & 255 : ' ');
        }
        return number;
    }

    static int load(RateLimiter limiter, String text) {
        feed(limiter, text);
        return limiter.load();
    }

    static RateLimiter loaded(String text) {
        RateLimiter limiter = new RateLimiter();
        if (load(limiter, text) < 0) {
            throw new IllegalArgumentException("a fault of the test: no setup: " + text);
        }
        return limiter;
    }

    static String setupText(RateLimiter limiter) {
        StringBuilder text = new StringBuilder();
        for (int i = 0; limiter.setupByte(i) >= 0; i++) {
            text.append((char) limiter.setupByte(i));
        }
        return text.toString();
    }
}
