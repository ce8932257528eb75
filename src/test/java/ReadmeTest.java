import java.io.ByteArrayOutputStream;
import java.io.IOException;
import java.io.PrintStream;
import java.nio.file.Files;
import java.nio.file.Path;
import java.util.regex.Matcher;
import java.util.regex.Pattern;

/** README.md says how things are: its example is the one that runs here, and every test has its row. */
public final class ReadmeTest {
    private static final Check C = new Check();

    public static void main(String[] args) throws IOException {
        String page = Files.readString(Path.of("README.md"));
        String example = Files.readString(Path.of("src/test/java/Example.java"));
        C.due("README.md shows Example.java as it is", page.contains("```java\n" + example + "```"), true);
        printed(example);
        try (var files = Files.list(Path.of("src/test/java"))) {
            for (Path file : files.sorted().toList()) {
                String name = file.getFileName().toString().replace(".java", "");
                C.due("README.md names " + name, page.contains("`" + name + "`"), true);
            }
        }
        for (var m : RingDisk.class.getDeclaredMethods()) {
            if (java.lang.reflect.Modifier.isPublic(m.getModifiers())) {
                C.due("README.md names " + m.getName(), page.contains("`" + m.getName() + "("), true);
            }
        }
        C.end("ReadmeTest");
    }

    private static void printed(String example) {
        PrintStream out = System.out;
        ByteArrayOutputStream caught = new ByteArrayOutputStream();
        System.setOut(new PrintStream(caught, true));
        Example.main(new String[0]);
        System.setOut(out);
        String[] lines = caught.toString().split("\\R");
        Matcher m = Pattern.compile("System\\.out\\.println\\((.*)\\); +// (-?[0-9]+):").matcher(example);
        int at = 0;
        while (m.find()) {
            long got = at < lines.length ? Long.parseLong(lines[at]) : Long.MIN_VALUE;
            C.due(m.group(1), got, Long.parseLong(m.group(2)));
            at++;
        }
        C.due("lines that are printed", lines.length, at);
        C.due("lines that are told", example.split("println").length - 1, at);
    }
}
