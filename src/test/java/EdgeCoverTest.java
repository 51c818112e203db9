import java.nio.charset.StandardCharsets;
import java.nio.file.DirectoryStream;
import java.nio.file.Files;
import java.nio.file.Path;
import java.nio.file.Paths;

/** Each promise and each section of the description has a test of its edges, whose title begins with its number. */
final class EdgeCoverTest {
    private static final Checks CHECKS = new Checks("EdgeCoverTest");
    private static final int PROMISES = 65;
    private static final int SECTIONS = 6;

    public static void main(String[] args) throws Exception {
        StringBuilder titles = new StringBuilder();
        try (DirectoryStream<Path> files = Files.newDirectoryStream(Paths.get("src/test/java"), "Edge*Test.java")) {
            for (Path file : files) {
                titles.append(new String(Files.readAllBytes(file), StandardCharsets.UTF_8));
            }
        }
        for (int promise = 1; promise <= PROMISES; promise++) {
            CHECKS.due("promise " + promise, titles.indexOf("test(\"promise " + promise + ": ") >= 0, true);
        }
        for (int section = 1; section <= SECTIONS; section++) {
            boolean named = titles.indexOf("test(\"section " + section + ": ") >= 0;
            CHECKS.due("section " + section, named, true);
        }
        CHECKS.finish();
    }
}
