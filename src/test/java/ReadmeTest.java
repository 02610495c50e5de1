import java.io.IOException;
import java.nio.file.Files;
import java.nio.file.Path;
import java.util.regex.Matcher;
import java.util.regex.Pattern;

/** The examples of README.md: each block is a run on a new object, its comments are the answers. */
public final class ReadmeTest {
    private static final Check CHECK = new Check();
    private static final int EXAMPLES = 7;
    private static final String NEW_OBJECT = "TextPipeline x = new TextPipeline();";
    private static final Pattern BLOCK = Pattern.compile("```java\n(.*?)```", Pattern.DOTALL);
    private static final Pattern CALL = Pattern.compile("x\\.(\\w+)\\((.*?)\\);(?:\\s*// (.*))?");
    private static final Pattern ANSWER = Pattern.compile("(-?\\d+|true|false)(:.*)?");
    private static final Pattern THROWN =
            Pattern.compile("(?:Illegal(Argument|State)|(Index)OutOfBounds)Exception: .*");

    public static void main(String[] args) throws IOException {
        Matcher blocks = BLOCK.matcher(Files.readString(Path.of("README.md")));
        int found = 0;
        while (blocks.find()) {
            found++;
            example("README.md, example " + found, blocks.group(1));
        }
        CHECK.due("examples in README.md", found, EXAMPLES);
        CHECK.end();
    }

    private static void example(String title, String block) {
        String[] lines = block.split("\n");
        CHECK.due(title + ": the first line", lines[0], NEW_OBJECT);
        StringBuilder calls = new StringBuilder();
        for (int i = 1; i < lines.length; i++) {
            Matcher call = CALL.matcher(lines[i]);
            if (call.matches()) {
                calls.append(call.group(1)).append(' ').append(call.group(2).replace(",", ""));
                calls.append(due(call.group(3))).append('\n');
            } else {
                CHECK.note(title + ": is no call: " + lines[i]);
            }
        }
        Script.run(CHECK, title, calls.toString());
    }

    /** What a comment says of the answer, in the words of Script; nothing if it only explains. */
    private static String due(String comment) {
        Matcher answer = ANSWER.matcher(comment == null ? "" : comment);
        if (answer.matches()) {
            return " = " + answer.group(1);
        }
        Matcher thrown = THROWN.matcher(comment == null ? "" : comment);
        if (!thrown.matches()) {
            return "";
        }
        return " ! " + (thrown.group(1) == null ? "index" : thrown.group(1).toLowerCase());
    }
}
