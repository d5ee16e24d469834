import java.util.ArrayList;
import java.util.List;

/**
 * Runs scripts of calls on new objects. A script has a call a line, as the document's examples write them:
 * "calibrate(1, 0, 2) -> 0", "read() -> throws UnsupportedOperationException", "save() -> done". A line without an
 * arrow is called and must not throw. Besides the lines that Player understands, a number with "x" in front repeats a
 * call, and "keeps" in front asks that the call leaves everything as it was, as Watch sees it.
 */
final class Script {
    private static int passed = 0;
    private static int failed = 0;

    private final Player player = new Player();
    private final List<String> calls = new ArrayList<>();

    private Script() {
    }

    static int passed() {
        return passed;
    }

    static int failed() {
        return failed;
    }

    static void count(boolean isPassed, String name, String what) {
        if (isPassed) {
            passed++;
        } else {
            failed++;
            System.out.println(name + ": " + what);
        }
    }

    static void run(String name, String script) {
        Script runner = new Script();
        StringBuilder wrong = new StringBuilder();
        for (String line : script.split("\n")) {
            String call = line.stripLeading();
            if (!call.isBlank()) {
                wrong.append(runner.runLine(call));
            }
        }
        count(wrong.length() == 0, name, wrong.toString());
    }

    private String runLine(String line) {
        if (line.matches("[0-9]+ x .*")) {
            String wrong = "";
            int times = Integer.parseInt(line.substring(0, line.indexOf(' ')));
            for (int time = 0; time < times && wrong.isEmpty(); time++) {
                wrong = runLine(line.substring(line.indexOf('x') + 2));
            }
            return wrong;
        }
        boolean isType = line.equals("type") || line.startsWith("type ");
        if (isType || !line.startsWith("keeps ")) {
            return runCall(line, isType);
        }
        List<String> before = List.copyOf(calls);
        String wrong = runCall(line.substring(6), false);
        return wrong + Watch.difference(before, calls.get(calls.size() - 1));
    }

    private String runCall(String line, boolean isType) {
        int arrow = isType ? -1 : line.indexOf(" -> ");
        String call = arrow < 0 ? line : line.substring(0, arrow);
        String answer = player.answer(call);
        calls.add(call);
        boolean isRight = arrow < 0 ? !answer.startsWith("throws ") : answer.equals(line.substring(arrow + 4));
        String due = arrow < 0 ? "" : ", due is " + line.substring(arrow + 4);
        return isRight ? "" : "\n  " + call + " answered " + answer + due;
    }
}
