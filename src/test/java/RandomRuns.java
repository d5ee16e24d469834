import java.lang.reflect.InvocationTargetException;
import java.lang.reflect.Method;
import java.util.ArrayList;
import java.util.Arrays;
import java.util.HashMap;
import java.util.List;
import java.util.Map;
import java.util.Set;
import java.util.TreeMap;

/**
 * Runs of calls that a fixed sequence of numbers chooses, each call on the class and on the model, and every now and
 * then all questions on both. What an object answers after its 512th call is free: a new one has then all calls of the
 * run but the questions, which change nothing, and goes on in its place. An argument sets the number of runs, a second
 * one the first run.
 */
public final class RandomRuns {
    private static final String[] CHANGES = {"addItem", "set", "pass", "part", "clearParts", "calibrate", "recall", "lift",
        "measure", "issue", "text", "undo", "save", "restore"};
    // How often a change is chosen: in runs of all kinds, with long chains, many recalls, many texts, many
    // measurements and certificates, and with many items.
    private static final int[][] WEIGHTS = {
        {1, 10, 10, 10, 1, 25, 5, 4, 12, 6, 8, 4, 1, 1},
        {1, 3, 4, 4, 1, 60, 1, 2, 6, 3, 4, 1, 1, 0},
        {1, 8, 8, 3, 1, 30, 12, 9, 12, 8, 4, 3, 1, 1},
        {1, 6, 6, 6, 1, 12, 4, 3, 8, 5, 40, 5, 1, 1},
        {1, 5, 4, 2, 1, 20, 1, 3, 60, 30, 2, 1, 1, 0},
        {9, 8, 6, 4, 1, 50, 2, 2, 20, 10, 4, 2, 1, 1},
    };
    private static final Set<String> NO_QUESTIONS = Set.of("addItem", "set", "pass", "part", "clearParts", "calibrate",
            "recall", "lift", "measure", "issue", "write", "append", "read", "undo", "save", "restore");
    // A text with its 82 calls may follow the last of these; the rest of an object's calls is for questions.
    private static final int MOST_KEPT = 340;
    private static final Map<String, Method> METHODS = methods(CalibrationRegistry.class);
    private static final Map<String, Method> MODEL_METHODS = methods(Model.class);
    private static final String[] WORDS = {"part", "cal", "pass", "recall", "lift", "measure", "cert"};

    private record Call(String name, Object[] arguments) {
    }

    private CalibrationRegistry registry = new CalibrationRegistry();
    private int callsOfRegistry = 0;
    private final List<Call> kept = new ArrayList<>();
    private final Model model = new Model();
    private final int run;
    private final int manner;
    private final List<String> calls = new ArrayList<>();
    private long seed;
    private final Map<String, Integer> met = new HashMap<>();
    private boolean isWrong = false;

    private RandomRuns(int run) {
        this.run = run;
        this.manner = run % WEIGHTS.length;
        this.seed = run * 7919L + 17;
    }

    public static void main(String[] args) {
        int runs = args.length > 0 ? Integer.parseInt(args[0]) : 600;
        int first = args.length > 1 ? Integer.parseInt(args[1]) : 0;
        int failed = 0;
        int[] most = new int[11];
        TreeMap<String, Integer> met = new TreeMap<>();
        for (int run = first; run < first + runs && failed < 3; run++) {
            RandomRuns runner = new RandomRuns(run);
            runner.go();
            failed += runner.isWrong ? 1 : 0;
            runner.met.forEach((what, times) -> met.merge(what, times, Integer::sum));
            for (int what = 0; what < most.length; what++) {
                most[what] = Math.max(most[what], runner.size(what));
            }
        }
        System.out.println("RandomRuns: " + runs + " runs, " + failed + " failed; greatest accounts at the ends "
                + Arrays.toString(most) + ", reasons and answers of read " + met);
        System.exit(failed == 0 ? 0 : 1);
    }

    private int next(int bound) {
        seed = seed * 6364136223846793005L + 1442695040888963407L;
        return (int) ((seed >>> 33) % bound);
    }

    private void go() {
        int items = 3 + next(4);
        for (int item = 0; item < items; item++) {
            both("addItem", item < 3 ? item : next(3), item >= 3 && next(6) == 0 ? 1 : 0, 1 + next(999), next(30));
        }
        while (kept.size() < MOST_KEPT && !isWrong) {
            change();
            if (next(3) == 0) {
                question();
            }
            if (next(40) == 0) {
                allQuestions();
            }
        }
        allQuestions();
    }

    private void change() {
        int[] weights = WEIGHTS[manner];
        int chosen = next(Arrays.stream(weights).sum());
        int which = 0;
        while (chosen >= weights[which]) {
            chosen -= weights[which];
            which++;
        }
        switch (CHANGES[which]) {
            case "addItem" -> both("addItem", edge(3), next(4) == 0 ? edge(4) : 0, number(1, 999), number(0, 99));
            case "set" -> set();
            case "pass" -> both("pass", next(12) == 0 ? number(1, 999) : 1 + next(12));
            case "part" -> both("part", edge(4), next(3) == 0 ? number(0, 999) : next(20));
            case "calibrate" -> calibrate();
            case "recall" -> recall("recall");
            case "lift" -> both("lift", edge(size(7)));
            case "measure" -> both("measure", next(2) == 0 ? 2 : anItem(), value(), next(3) == 0 ? number(0, 9999) : next(200));
            case "issue" -> both("issue", next(3) == 0 ? 2 : anItem());
            case "text" -> text();
            default -> both(CHANGES[which]);
        }
    }

    private void set() {
        int what = edge(4);
        int value = what == 0 || what == 3 ? number(1, 999) : what == 1 ? number(0, 99) : edge(4);
        both("set", anItem(), what, next(20) == 0 ? number(0, 1000) : value);
    }

    /** Looks for a pair that is not refused, most of the time, so that the calibrations become many. */
    private void calibrate() {
        int item = anItem();
        int standard = anItem();
        int tries = next(4) == 0 ? 0 : 8;
        for (int time = 0; time < tries && !ask("wouldRefuse", item, standard).equals("0"); time++) {
            item = anItem();
            standard = anItem();
        }
        both("calibrate", item, standard, offset());
    }

    private void recall(String call) {
        int today = today();
        int first = next(12) == 0 ? number(0, 9999) : Math.max(0, today - next(60));
        int last = next(12) == 0 ? number(0, 9999) : first + next(8);
        both(call, anItem(), first, last);
    }

    private int offset() {
        return next(8) == 0 ? number(-999, 999) : next(41) - 20;
    }

    private int value() {
        return next(4) == 0 ? number(-9999, 9999) : next(401) - 200;
    }

    private int anItem() {
        return edge(size(0));
    }

    /** A number from 0 to the size, the size left out, and now and then one beside that. */
    private int edge(int size) {
        int chance = next(40);
        if (chance == 0 || size <= 0) {
            return new int[] {-1, size, size + 7, Integer.MAX_VALUE, Integer.MIN_VALUE}[next(5)];
        }
        return next(size);
    }

    private int number(int least, int most) {
        int chance = next(30);
        if (chance == 0) {
            return new int[] {least - 1, most + 1, Integer.MAX_VALUE, Integer.MIN_VALUE}[next(4)];
        }
        return chance < 3 ? (chance == 1 ? least : most) : least + next(most - least + 1);
    }

    private void text() {
        StringBuilder text = new StringBuilder();
        int commands = 1 + next(1 + next(7));
        for (int number = 0; number < commands; number++) {
            text.append(number == 0 ? "" : ";").append(command());
        }
        int fault = next(6);
        if (fault == 0 && text.length() > 0) {
            text.setCharAt(next(text.length()), "0123456789 ;-pcrlmaestx\u00e9".charAt(next(24)));
        } else if (fault == 1) {
            text.setLength(next(text.length() + 1));
        } else if (fault == 2) {
            text.insert(next(text.length() + 1), "09 ;-p".charAt(next(6)));
        }
        for (int index = 0; index < Math.min(text.length(), 79 + next(3)); index++) {
            compare("append", text.charAt(index));
        }
        if (next(15) != 0) {
            both("read");
            both("faultPosition");
        }
    }

    private String command() {
        String word = WORDS[next(WORDS.length)];
        int today = today();
        int item = next(Math.max(1, size(0) + (next(20) == 0 ? 3 : 0)));
        int other = next(Math.max(1, size(0)));
        return switch (word) {
            case "part" -> word + " " + next(next(20) == 0 ? 6 : 4) + " " + next(next(20) == 0 ? 2000 : 100);
            case "cal" -> word + " " + item + " " + other + " " + (next(3) == 0 ? "-" : "") + next(next(20) == 0 ? 1100 : 50);
            case "pass" -> word + " " + next(next(20) == 0 ? 1100 : 20);
            case "recall" -> word + " " + item + " " + Math.max(0, today - next(50)) + " " + next(next(2) == 0 ? 10000 : today + 1);
            case "lift" -> word + " " + next(Math.max(1, size(7)));
            case "measure" -> word + " " + item + " " + (next(3) == 0 ? "-" : "") + next(300) + " " + next(300);
            default -> word + " " + item;
        };
    }

    private void question() {
        switch (next(9)) {
            case 0 -> recall("reach");
            case 1 -> both("best", anItem());
            case 2 -> both("wouldRefuse", anItem(), anItem());
            case 3 -> both("write", edge(size(5)));
            case 4 -> both("overdueWithin", number(0, 9999));
            case 5 -> both("due", edge(size(0)));
            case 6 -> both("again", edge(size(3)));
            case 7 -> both("calibration", edge(size(1)), edge(13));
            default -> both("item", anItem(), edge(11));
        }
    }

    private void allQuestions() {
        for (String call : new String[] {"today", "faultPosition", "goodShare"}) {
            both(call);
        }
        compare("refusal", true);
        compare("refusal", false);
        for (int what = -1; what <= 11; what++) {
            both("account", what);
        }
        questionsOfItems(size(0));
        questionsOfCalibrations(size(1));
        table("recalled", size(7), 4);
        table("measurement", size(3), 8);
        table("certificate", size(5), 3);
        for (int index = -2; index <= 40; index++) {
            both("again", index);
            both("square", index);
            both("written", index);
            both("due", index);
        }
        for (int days = 0; days <= 9999; days += 1 + next(400)) {
            both("overdueWithin", days);
        }
    }

    private void questionsOfItems(int items) {
        table("item", items, 11);
        for (int item = 0; item < items; item++) {
            both("best", item);
            both("reach", item, 0, today());
            for (int standard = 0; standard < items; standard++) {
                both("wouldRefuse", item, standard);
            }
        }
    }

    private void questionsOfCalibrations(int calibrations) {
        table("calibration", calibrations, 13);
        for (int calibration = -1; calibration <= calibrations; calibration++) {
            both("alongChain", calibration);
            both("cause", calibration);
            compare("variance", calibration, true);
            compare("variance", calibration, false);
            both("chain", calibration, next(62) - 1);
        }
    }

    private void table(String call, int rows, int columns) {
        for (int row = -1; row <= rows; row++) {
            for (int column = -1; column <= columns; column++) {
                both(call, row, column);
            }
        }
    }

    private void both(String call, Integer... numbers) {
        compare(call, (Object[]) numbers);
    }

    private void compare(String call, Object... arguments) {
        if (isWrong) {
            return;
        }
        String got = ask(call, arguments);
        String due = outcome(model, MODEL_METHODS.get(call), arguments);
        if (NO_QUESTIONS.contains(call)) {
            kept.add(new Call(call, arguments));
        }
        calls.add(call + Arrays.toString(arguments) + " -> " + got);
        if (call.equals("read")) {
            met.merge(got.replaceAll(".*\\.", ""), 1, Integer::sum);
        }
        if (got.endsWith("UnsupportedOperationException")) {
            met.merge("reason " + ask("refusal", true), 1, Integer::sum);
        }
        if (!got.equals(due)) {
            isWrong = true;
            System.out.println("run " + run + ", due is " + due + " in the last of " + calls.size() + " calls:");
            calls.subList(Math.max(0, calls.size() - 12), calls.size()).forEach(System.out::println);
        }
    }

    private int size(int what) {
        return Integer.parseInt(ask("account", what));
    }

    private int today() {
        return Integer.parseInt(ask("today"));
    }

    private String ask(String call, Object... arguments) {
        if (callsOfRegistry >= Player.MOST_CALLS) {
            registry = new CalibrationRegistry();
            callsOfRegistry = kept.size();
            for (Call each : kept) {
                outcome(registry, METHODS.get(each.name()), each.arguments());
            }
        }
        callsOfRegistry++;
        return outcome(registry, METHODS.get(call), arguments);
    }

    /** The methods of a class that bear the names and take the arguments of the face. */
    private static Map<String, Method> methods(Class<?> type) {
        Map<String, Method> methods = new HashMap<>();
        for (Method method : CalibrationRegistry.class.getMethods()) {
            if (method.getDeclaringClass() == CalibrationRegistry.class) {
                try {
                    methods.put(method.getName(), type.getDeclaredMethod(method.getName(), method.getParameterTypes()));
                } catch (NoSuchMethodException e) {
                    throw new IllegalStateException("no such call: " + e);
                }
            }
        }
        return methods;
    }

    private static String outcome(Object object, Method method, Object[] arguments) {
        try {
            return String.valueOf(method.invoke(object, arguments));
        } catch (InvocationTargetException e) {
            return e.getCause().getClass().getName();
        } catch (IllegalAccessException e) {
            return "not to be called: " + e;
        }
    }
}
