import java.lang.reflect.InvocationTargetException;
import java.lang.reflect.Method;

/**
 * Runs scripts of calls on new objects. A script has a call a line, as the document's examples write them:
 * "calibrate(1, 0, 2) -> 0", "read() -> throws UnsupportedOperationException", "save() -> done". A line without an
 * arrow is called and must not throw. Three lines more are understood: "type pass 5;lift 0" appends the characters,
 * "text -> N0 I1 .." asks for all that was written, and a number with "x" in front repeats a call.
 */
final class Script {
    private static int passed = 0;
    private static int failed = 0;

    private Script() {
    }

    static int passed() {
        return passed;
    }

    static int failed() {
        return failed;
    }

    static void count(boolean isPassed, String name, String what) {
        if (isPassed) {
            passed++;
        } else {
            failed++;
            System.out.println(name + ": " + what);
        }
    }

    static void run(String name, String script) {
        CalibrationRegistry registry = new CalibrationRegistry();
        StringBuilder wrong = new StringBuilder();
        for (String line : script.split("\n")) {
            String call = line.stripLeading();
            if (!call.isBlank()) {
                wrong.append(runLine(registry, call));
            }
        }
        count(wrong.length() == 0, name, wrong.toString());
    }

    private static String runLine(CalibrationRegistry registry, String line) {
        if (line.startsWith("type ") || line.equals("type")) {
            for (char c : line.substring(Math.min(5, line.length())).toCharArray()) {
                registry.append(c);
            }
            return "";
        }
        if (line.matches("[0-9]+ x .*")) {
            String wrong = "";
            int times = Integer.parseInt(line.substring(0, line.indexOf(' ')));
            for (int time = 0; time < times && wrong.isEmpty(); time++) {
                wrong = runLine(registry, line.substring(line.indexOf('x') + 2));
            }
            return wrong;
        }
        int arrow = line.indexOf(" -> ");
        String call = arrow < 0 ? line.strip() : line.substring(0, arrow);
        String answer = call.equals("text") ? writtenText(registry) : answerOf(registry, call);
        String due = arrow < 0 ? answer : line.substring(arrow + 4);
        boolean isRight = arrow < 0 ? !answer.startsWith("throws ") : answer.equals(due);
        return isRight ? "" : "\n  " + call + " answered " + answer + (arrow < 0 ? "" : ", due is " + due);
    }

    private static String writtenText(CalibrationRegistry registry) {
        StringBuilder all = new StringBuilder();
        try {
            for (int index = 0; index < 1000; index++) {
                all.append(registry.written(index));
            }
        } catch (java.util.NoSuchElementException e) {
            return all.toString();
        }
        return "no end";
    }

    static String answerOf(CalibrationRegistry registry, String call) {
        int open = call.indexOf('(');
        String name = call.substring(0, open);
        String inside = call.substring(open + 1, call.lastIndexOf(')'));
        String[] words = inside.isEmpty() ? new String[0] : inside.length() == 3 ? new String[] {inside} : inside.split(", ");
        for (Method method : CalibrationRegistry.class.getMethods()) {
            if (method.getName().equals(name) && method.getDeclaringClass() == CalibrationRegistry.class) {
                return invoke(registry, method, words);
            }
        }
        return "no such call";
    }

    private static String invoke(CalibrationRegistry registry, Method method, String[] words) {
        Class<?>[] types = method.getParameterTypes();
        Object[] arguments = new Object[types.length];
        if (words.length != types.length) {
            return "wrong number of arguments";
        }
        for (int index = 0; index < types.length; index++) {
            arguments[index] = argument(types[index], words[index]);
        }
        try {
            Object answer = method.invoke(registry, arguments);
            return method.getReturnType() == void.class ? "done" : String.valueOf(answer);
        } catch (InvocationTargetException e) {
            return "throws " + e.getCause().getClass().getSimpleName();
        } catch (IllegalAccessException e) {
            return "not public";
        }
    }

    private static Object argument(Class<?> type, String word) {
        if (type == boolean.class) {
            return Boolean.valueOf(word);
        }
        return type == char.class ? (Object) word.charAt(1) : (Object) Integer.valueOf(word.strip());
    }
}
