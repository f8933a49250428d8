import java.io.IOException;
import java.lang.reflect.Method;
import java.lang.reflect.Modifier;
import java.nio.file.DirectoryStream;
import java.nio.file.Files;
import java.nio.file.Path;
import java.util.regex.Matcher;
import java.util.regex.Pattern;

/** README.md is true: its examples answer what they say, and it names every call and every test. */
public final class ReadmeTest {
    private static final Due DUE = new Due();
    private static final Pattern NEW = Pattern.compile("BalconiesParliament street = new .*");
    private static final Pattern CALL = Pattern.compile("street\\.(\\w+)\\((.*)\\); +// (-?\\d+).*");

    public static void main(String[] args) throws IOException {
        String readme = Files.readString(Path.of("README.md"));
        DUE.is("examples", examples(readme), 2);
        calls(readme);
        tests(readme);
        DUE.end("ReadmeTest");
    }

    private static int examples(String readme) {
        int found = 0;
        Matcher block = Pattern.compile("(?s)```java\n(.*?)```").matcher(readme);
        while (block.find()) {
            found++;
            example(block.group(1));
        }
        return found;
    }

    private static void example(String lines) {
        BalconiesParliament street = null;
        for (String line : lines.split("\n")) {
            Matcher call = CALL.matcher(line);
            if (NEW.matcher(line).matches()) {
                street = new BalconiesParliament();
            } else if (call.matches() && street != null) {
                long answer = Calls.ask(street, call.group(1), numbers(call.group(2)));
                DUE.is("README.md: " + line, answer, Long.parseLong(call.group(3)));
            } else {
                DUE.so("README.md: a call on a street with its answer: " + line, false);
            }
        }
    }

    /** Numbers, or signs in quotes. */
    private static int[] numbers(String told) {
        String[] parts = told.split(", ");
        int[] numbers = new int[parts.length];
        for (int i = 0; i < parts.length; i++) {
            boolean sign = parts[i].startsWith("'");
            numbers[i] = sign ? parts[i].charAt(1) : Integer.parseInt(parts[i]);
        }
        return numbers;
    }

    private static void calls(String readme) {
        for (Method m : BalconiesParliament.class.getDeclaredMethods()) {
            if (Modifier.isPublic(m.getModifiers())) {
                DUE.so("README.md names " + m.getName(), readme.contains("`" + m.getName() + "`"));
            }
        }
    }

    private static void tests(String readme) throws IOException {
        try (DirectoryStream<Path> files = Files.newDirectoryStream(Path.of("src/test/java"), "*Test.java")) {
            for (Path file : files) {
                String name = file.getFileName().toString().replace(".java", "");
                DUE.so("README.md names " + name, readme.contains("`" + name + "`"));
            }
        }
    }
}
