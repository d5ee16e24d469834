import java.lang.reflect.InvocationTargetException;
import java.lang.reflect.Method;
import java.util.HashMap;
import java.util.List;
import java.util.Map;

/**
 * An object of the class and the calls that it has had. A call is written as the document's examples write it,
 * "calibrate(1, 0, 2)", and answered as they answer it; "type pass 5;lift 0" appends the characters one by one, and
 * "text" asks for all that was written last.
 */
final class Player {
    /** An object is promised for so many calls; a test that asks it for more ends with an exception. */
    static final int MOST_CALLS = 512;

    private static final Map<String, Method> METHODS = new HashMap<>();

    static {
        for (Method method : CalibrationRegistry.class.getDeclaredMethods()) {
            METHODS.put(method.getName(), method);
        }
    }

    private final CalibrationRegistry registry = new CalibrationRegistry();
    private int calls = 0;

    Player() {
    }

    Player(List<String> first) {
        for (String call : first) {
            answer(call);
        }
    }

    int calls() {
        return calls;
    }

    String answer(String call) {
        if (call.equals("text")) {
            return text();
        }
        if (call.equals("type") || call.startsWith("type ")) {
            return type(call.substring(Math.min(5, call.length())));
        }
        int open = call.indexOf('(');
        int close = call.lastIndexOf(')');
        Method method = open < 0 || close < open ? null : METHODS.get(call.substring(0, open));
        if (method == null) {
            return "no such call";
        }
        String inside = call.substring(open + 1, close);
        String[] words = inside.isEmpty() ? new String[0] : inside.startsWith("'") ? new String[] {inside} : inside.split(", ");
        return invoke(method, words);
    }

    private String type(String characters) {
        String answer = "done";
        for (int index = 0; index < characters.length() && answer.equals("done"); index++) {
            answer = answer("append('" + characters.charAt(index) + "')");
        }
        return answer;
    }

    private String text() {
        StringBuilder all = new StringBuilder();
        for (int index = 0; index < MOST_CALLS; index++) {
            String character = answer("written(" + index + ")");
            if (character.length() != 1) {
                return all.toString();
            }
            all.append(character);
        }
        return "no end";
    }

    private String invoke(Method method, String[] words) {
        Class<?>[] types = method.getParameterTypes();
        if (words.length != types.length) {
            return "wrong number of arguments";
        }
        Object[] arguments = new Object[types.length];
        for (int index = 0; index < types.length; index++) {
            arguments[index] = argument(types[index], words[index]);
        }
        calls++;
        if (calls > MOST_CALLS) {
            throw new IllegalStateException("the answer is free after so many calls: " + method.getName());
        }
        try {
            Object answer = method.invoke(registry, arguments);
            return method.getReturnType() == void.class ? "done" : String.valueOf(answer);
        } catch (InvocationTargetException e) {
            return "throws " + e.getCause().getClass().getSimpleName();
        } catch (IllegalAccessException e) {
            return "not public";
        }
    }

    private static Object argument(Class<?> type, String word) {
        if (type == boolean.class) {
            return Boolean.valueOf(word);
        }
        return type == char.class ? (Object) word.charAt(1) : (Object) Integer.valueOf(word);
    }
}
