import java.io.IOException;
import java.lang.reflect.Method;
import java.lang.reflect.Modifier;
import java.nio.file.Files;
import java.nio.file.Path;
import java.util.regex.Matcher;
import java.util.regex.Pattern;
import java.util.stream.Collectors;
import java.util.stream.Stream;

/** README.md: its example gives the answers that it says, and it speaks of each call. Runs in the project's folder. */
public final class ReadmeTest {
    private static final Check CHECK = new Check("ReadmeTest");
    private static final Pattern BLOCK = Pattern.compile("(?s)```java\n(.*?)```");
    private static final Pattern ANSWER = Pattern.compile("(?m)^(int (\\w+) = .*?;) *// (-?\\d+)\\b.*$");

    public static void main(String[] args) throws IOException, ReflectiveOperationException {
        String readme = Files.readString(Path.of("README.md"));
        Matcher block = BLOCK.matcher(readme);
        CHECK.due("an example", block.find() ? 1 : 0, 1);
        example(block.group(1));
        eachCallIsSpokenOf(readme);
        CHECK.due("it says how the tests are run", readme.contains(".ci/run") ? 1 : 0, 1);
        CHECK.finish();
    }

    private static void example(String block) throws ReflectiveOperationException {
        long remarks = block.lines().filter(line -> line.contains("//")).count();
        CHECK.due("remarks that begin with an answer", ANSWER.matcher(block).results().count(), remarks);
        String checked = ANSWER.matcher(block).replaceAll("$1 check.due(\"$2\", $2, $3L);");
        String source = "final class Example { static int wrong() { Check check = new Check(\"README.md\");\n"
                + checked + "\nreturn check.wrong(); } }";
        Method wrong = new Compiled("Example", source).loadClass("Example").getDeclaredMethod("wrong");
        wrong.setAccessible(true);
        CHECK.due("answers that the example says wrongly", (int) wrong.invoke(null), 0);
    }

    private static void eachCallIsSpokenOf(String readme) {
        for (Method call : DampLikeness.class.getDeclaredMethods()) {
            if (Modifier.isPublic(call.getModifiers())) {
                String names = Stream.generate(() -> "\\w+").limit(call.getParameterCount()).collect(Collectors.joining(", "));
                Pattern written = Pattern.compile("`" + call.getName() + "\\(" + names + "\\)`");
                CHECK.due(written + " is spoken of", written.matcher(readme).find() ? 1 : 0, 1);
            }
        }
    }
}
