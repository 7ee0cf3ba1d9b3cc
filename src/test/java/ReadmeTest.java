import java.io.ByteArrayOutputStream;
import java.io.PrintStream;
import java.nio.file.Files;
import java.nio.file.Path;
import java.util.Set;
import java.util.TreeSet;

/** README.md shows the program Example and what it prints, and names each test. */
public final class ReadmeTest {
    public static void main(String[] args) throws Exception {
        Check check = new Check();
        check.at("README.md");
        String readme = Files.readString(Path.of("README.md"));
        String example = Files.readString(Path.of("src/test/java/Example.java"));
        check.due("its program", readme.contains("```java\n" + example + "```\n"), true);
        check.due("what the program prints", readme.contains("```text\n" + printed() + "```\n"), true);
        Set<String> untold = new TreeSet<>();
        try (var files = Files.newDirectoryStream(Path.of("src/test/java"), "*Test.java")) {
            for (Path file : files) {
                String name = file.getFileName().toString().replace(".java", "");
                if (!readme.contains("`" + name + "`")) {
                    untold.add(name);
                }
            }
        }
        check.due("tests that it does not tell", untold, new TreeSet<String>());
        check.end();
    }

    private static String printed() {
        PrintStream before = System.out;
        ByteArrayOutputStream bytes = new ByteArrayOutputStream();
        System.setOut(new PrintStream(bytes));
        Example.main(new String[0]);
        System.out.flush();
        System.setOut(before);
        return bytes.toString();
    }
}
