import java.io.ByteArrayOutputStream;
import java.io.PrintStream;
import java.nio.charset.StandardCharsets;
import java.nio.file.Files;
import java.nio.file.Path;

/** The example of README.md is Example.java as it stands, and prints what the page says. */
public final class ReadmeTest {
    public static void main(String[] args) throws Exception {
        String page = Files.readString(Path.of("README.md"));
        String source = Files.readString(Path.of("src/test/java/Example.java"));
        Check.sameSight("the program", source.substring(source.indexOf("public final class")), block(page, "```java\n", 0));
        Check.sameSight("what it prints", printed(), block(page, "```\n", page.indexOf("It prints:")));
        Check.end("ReadmeTest");
    }

    /** The lines between this fence, at or after the place, and the one that closes it. */
    private static String block(String page, String fence, int place) {
        int start = page.indexOf(fence, place) + fence.length();
        return page.substring(start, page.indexOf("```", start));
    }

    private static String printed() {
        PrintStream console = System.out;
        ByteArrayOutputStream bytes = new ByteArrayOutputStream();
        System.setOut(new PrintStream(bytes, true, StandardCharsets.UTF_8));
        try {
            Example.main(new String[0]);
        } finally {
            System.setOut(console);
        }
        return bytes.toString(StandardCharsets.UTF_8).replace(System.lineSeparator(), "\n");
    }
}
