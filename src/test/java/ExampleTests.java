import java.io.IOException;
import java.nio.file.Files;
import java.nio.file.Path;
import java.util.regex.Matcher;
import java.util.regex.Pattern;

/** Runs the examples of the document as they stand there; the argument is the document's path. */
public final class ExampleTests {
    // An answer ends before ", " and the next call, or at the end; so an answer that is a space is found too.
    private static final Pattern STEP =
            Pattern.compile("([a-zA-Z]+\\((?:'.'|[^)']*)\\)) -> (throws [A-Za-z]+|.[^,]*?)(?=, [a-zA-Z]+\\(|$)");

    public static void main(String[] args) throws IOException {
        String document = Files.readString(Path.of(args[0]));
        int begin = document.indexOf("```text", document.indexOf("Examples:"));
        String block = document.substring(begin + 7, document.indexOf("```", begin + 7));
        int examples = 0;
        for (String example : block.split("\n  (?=\\S)")) {
            if (!example.isBlank()) {
                String oneLine = example.replaceAll("\n *", " ");
                int colon = oneLine.indexOf(": ");
                Script.run("example \"" + oneLine.substring(0, colon) + "\"", steps(oneLine.substring(colon + 2).stripTrailing()));
                examples++;
            }
        }
        Script.count(examples == 4, "examples", "4 are due, found " + examples);
        System.out.println("ExampleTests: " + Script.passed() + " passed, " + Script.failed() + " failed");
        System.exit(Script.failed() == 0 ? 0 : 1);
    }

    private static String steps(String example) {
        StringBuilder script = new StringBuilder();
        Matcher matcher = STEP.matcher(example);
        int found = 0;
        while (matcher.find()) {
            script.append(matcher.group(1)).append(" -> ").append(matcher.group(2)).append('\n');
            found++;
        }
        int due = example.split(" -> ", -1).length - 1;
        Script.count(found == due, "examples", due + " steps are due, found " + found + " in " + example);
        return script.toString();
    }
}
