import java.io.ByteArrayOutputStream;
import java.io.IOException;
import java.io.PrintStream;
import java.nio.file.Files;
import java.nio.file.Path;

/** README.md has the example as it is, and what it prints, and names each call and each test. */
public final class ReadmeTest extends Bench {
    private ReadmeTest() { }

    private static String printed() {
        PrintStream before = System.out;
        ByteArrayOutputStream bytes = new ByteArrayOutputStream();
        System.setOut(new PrintStream(bytes, true));
        Example.main(new String[0]);
        System.setOut(before);
        return bytes.toString().replace("\r\n", "\n");
    }

    public static void main(String[] args) throws IOException {
        about("README.md");
        String readme = Files.readString(Path.of("README.md"));
        String example = Files.readString(Path.of("tests/Example.java"));
        due(readme.contains("```java\n" + example + "```\n"), true, "the program");
        due(readme.contains("```\n" + printed() + "```\n"), true, "what the program prints");
        for (var call : Boxedvalue.class.getDeclaredMethods()) {
            if (java.lang.reflect.Modifier.isPublic(call.getModifiers())) {
                due(readme.contains("`" + call.getName() + "`"), true, call.getName());
            }
        }
        try (var tests = Files.list(Path.of("tests"))) {
            for (Path test : tests.toList()) {
                due(readme.contains("`tests/" + test.getFileName() + "`"), true, "the name of " + test);
            }
        }
        tell("ReadmeTest");
    }
}
