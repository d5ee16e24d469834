import java.io.IOException;
import java.lang.reflect.Method;
import java.nio.file.Files;
import java.nio.file.Path;
import java.util.ArrayList;
import java.util.List;
import java.util.Set;
import java.util.TreeSet;
import java.util.regex.Matcher;
import java.util.regex.Pattern;

/**
 * README.md tells the truth: its examples answer what it says, each call of the face has one, and its table of what is
 * thrown is the document's. The arguments are the paths of the document and of README.md.
 */
public final class ReadmeTests {
    private static final String NEW_OBJECT = "CalibrationRegistry registry = new CalibrationRegistry();";
    // A call, and its answer up to a colon and what it is; a call without an answer returns nothing.
    private static final Pattern CALL = Pattern.compile("registry\\.((\\w+)\\((?:'.'|[^'()]*)\\));(?: +// (.+?)(?:: .*)?)?");
    private static final Pattern TYPED =
            Pattern.compile("for \\(char c : \"([^\"]*)\"\\.toCharArray\\(\\)\\) \\{ registry\\.append\\(c\\); \\}");
    private static final Pattern PROMISED = Pattern.compile("Throws (`\\w+` .*)");
    private static final Pattern ROW = Pattern.compile("\\| (?:`(\\w+)`)? *\\| (`\\w+`) \\| (if .*) \\|");

    public static void main(String[] args) throws IOException {
        String document = Files.readString(Path.of(args[0]));
        String readme = Files.readString(Path.of(args[1]));
        examples(readme);
        Script.count(thrown(document).equals(table(readme)), "thrown",
                "README.md has " + table(readme) + "\n due " + thrown(document));
        Script.count(readme.contains("512 calls"), "README.md", "tells not for how many calls an object is promised");
        Script.count(readme.contains(".ci/run"), "README.md", "tells not how to run the tests");
        System.out.println("ReadmeTests: " + Script.passed() + " passed, " + Script.failed() + " failed");
        System.exit(Script.failed() == 0 ? 0 : 1);
    }

    private static void examples(String readme) {
        Set<String> missing = new TreeSet<>();
        for (Method method : CalibrationRegistry.class.getMethods()) {
            if (method.getDeclaringClass() == CalibrationRegistry.class) {
                missing.add(method.getName());
            }
        }
        String[] blocks = readme.split("```java\n");
        for (int block = 1; block < blocks.length; block++) {
            String example = blocks[block].substring(0, blocks[block].indexOf("```"));
            String name = "README.md, example " + block;
            Script.count(example.startsWith(NEW_OBJECT), name, "begins with something else than a new object");
            Script.run(name, script(name, example.replace(NEW_OBJECT, ""), missing));
        }
        Script.count(missing.isEmpty(), "README.md", "no example has the calls " + missing);
    }

    private static String script(String name, String example, Set<String> missing) {
        StringBuilder script = new StringBuilder();
        for (String line : example.split("\n")) {
            Matcher call = CALL.matcher(line);
            Matcher typed = TYPED.matcher(line);
            if (typed.matches()) {
                script.append("type ").append(typed.group(1)).append('\n');
                missing.remove("append");
            } else if (call.matches()) {
                String answer = call.group(3) == null ? "done" : call.group(3);
                script.append(call.group(1)).append(" -> ").append(answer.replaceFirst("^'(.)'$", "$1")).append('\n');
                missing.remove(call.group(2));
            } else {
                Script.count(line.isBlank(), name, "is neither a call nor a text: " + line);
            }
        }
        return script.toString();
    }

    /** What the promises throw, each with its call and when. */
    private static List<String> thrown(String document) {
        List<String> thrown = new ArrayList<>();
        String call = "";
        for (String line : document.substring(document.indexOf("## Promise 1:")).split("\n")) {
            Matcher matcher = PROMISED.matcher(line);
            if (line.startsWith("## Promise ")) {
                call = line.substring(line.indexOf(':') + 2);
            } else if (matcher.matches()) {
                thrown.add(call + " " + matcher.group(1));
            }
        }
        return thrown;
    }

    /** The same from the rows of the table, where a row without a call belongs to the call above it. */
    private static List<String> table(String readme) {
        List<String> rows = new ArrayList<>();
        String call = "";
        for (String line : readme.split("\n")) {
            Matcher matcher = ROW.matcher(line);
            if (matcher.matches()) {
                call = matcher.group(1) == null ? call : matcher.group(1);
                rows.add(call + " " + matcher.group(2) + " " + matcher.group(3));
            }
        }
        return rows;
    }
}
