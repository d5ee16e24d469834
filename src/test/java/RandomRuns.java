import java.lang.reflect.InvocationTargetException;
import java.lang.reflect.Method;
import java.util.ArrayList;
import java.util.Arrays;
import java.util.List;

/**
 * Runs of calls that a fixed sequence of numbers chooses, each call on the class and on the model, and every now and
 * then all questions on both. An argument sets the number of runs, a second one the first run.
 */
public final class RandomRuns {
    private static final String[] CHANGES = {"addItem", "set", "pass", "part", "clearParts", "calibrate", "recall", "lift",
        "measure", "issue", "text", "undo", "save", "restore"};
    // How often a change is chosen: in runs of all kinds, with long chains, many recalls, many texts, many
    // measurements and certificates, and with many items.
    private static final int[][] WEIGHTS = {
        {1, 10, 10, 10, 1, 25, 5, 4, 12, 6, 8, 4, 1, 1},
        {1, 3, 4, 4, 1, 60, 1, 2, 6, 3, 4, 1, 1, 0},
        {1, 8, 8, 3, 1, 30, 12, 9, 12, 8, 4, 3, 1, 1},
        {1, 6, 6, 6, 1, 12, 4, 3, 8, 5, 40, 5, 1, 1},
        {1, 5, 4, 2, 1, 20, 1, 3, 60, 30, 2, 1, 1, 0},
        {9, 8, 6, 4, 1, 50, 2, 2, 20, 10, 4, 2, 1, 1},
    };
    private static final String[] WORDS = {"part", "cal", "pass", "recall", "lift", "measure", "cert"};

    private final CalibrationRegistry registry = new CalibrationRegistry();
    private final Model model = new Model();
    private final int run;
    private final int manner;
    private final List<String> calls = new ArrayList<>();
    private long seed;
    private boolean isWrong = false;

    private RandomRuns(int run) {
        this.run = run;
        this.manner = run % WEIGHTS.length;
        this.seed = run * 7919L + 17;
    }

    public static void main(String[] args) {
        int runs = args.length > 0 ? Integer.parseInt(args[0]) : 120;
        int first = args.length > 1 ? Integer.parseInt(args[1]) : 0;
        int failed = 0;
        int[] most = new int[11];
        for (int run = first; run < first + runs && failed < 3; run++) {
            RandomRuns runner = new RandomRuns(run);
            runner.go();
            failed += runner.isWrong ? 1 : 0;
            for (int what = 0; what < most.length; what++) {
                most[what] = (int) Math.max(most[what], runner.registry.account(what));
            }
        }
        System.out.println("RandomRuns: " + runs + " runs, " + failed + " failed; greatest accounts at the ends "
                + Arrays.toString(most));
        System.exit(failed == 0 ? 0 : 1);
    }

    private int next(int bound) {
        seed = seed * 6364136223846793005L + 1442695040888963407L;
        return (int) ((seed >>> 33) % bound);
    }

    private void go() {
        int items = 3 + next(4);
        for (int item = 0; item < items; item++) {
            both("addItem", item < 3 ? item : next(3), item >= 3 && next(6) == 0 ? 1 : 0, 1 + next(999), next(30));
        }
        for (int call = 0; call < 500 && !isWrong; call++) {
            change();
            if (next(3) == 0) {
                question();
            }
            if (next(40) == 0) {
                allQuestions();
            }
        }
        allQuestions();
    }

    private void change() {
        int[] weights = WEIGHTS[manner];
        int chosen = next(Arrays.stream(weights).sum());
        int which = 0;
        while (chosen >= weights[which]) {
            chosen -= weights[which];
            which++;
        }
        switch (CHANGES[which]) {
            case "addItem" -> both("addItem", edge(3), next(4) == 0 ? edge(4) : 0, number(1, 999), number(0, 99));
            case "set" -> set();
            case "pass" -> both("pass", next(12) == 0 ? number(1, 999) : 1 + next(12));
            case "part" -> both("part", edge(4), next(3) == 0 ? number(0, 999) : next(20));
            case "calibrate" -> both("calibrate", anItem(), anItem(), offset());
            case "recall" -> recall("recall");
            case "lift" -> both("lift", edge((int) registry.account(7)));
            case "measure" -> both("measure", next(2) == 0 ? 2 : anItem(), value(), next(3) == 0 ? number(0, 9999) : next(200));
            case "issue" -> both("issue", next(3) == 0 ? 2 : anItem());
            case "text" -> text();
            default -> both(CHANGES[which]);
        }
    }

    private void set() {
        int what = edge(4);
        int value = what == 0 || what == 3 ? number(1, 999) : what == 1 ? number(0, 99) : edge(4);
        both("set", anItem(), what, next(20) == 0 ? number(0, 1000) : value);
    }

    private void recall(String call) {
        int today = registry.today();
        int first = next(12) == 0 ? number(0, 9999) : Math.max(0, today - next(60));
        int last = next(12) == 0 ? number(0, 9999) : first + next(8);
        both(call, anItem(), first, last);
    }

    private int offset() {
        return next(8) == 0 ? number(-999, 999) : next(41) - 20;
    }

    private int value() {
        return next(4) == 0 ? number(-9999, 9999) : next(401) - 200;
    }

    private int anItem() {
        return edge((int) registry.account(0));
    }

    /** A number from 0 to the size, the size left out, and now and then one beside that. */
    private int edge(int size) {
        int chance = next(40);
        if (chance == 0 || size <= 0) {
            return new int[] {-1, size, size + 7, Integer.MAX_VALUE, Integer.MIN_VALUE}[next(5)];
        }
        return next(size);
    }

    private int number(int least, int most) {
        int chance = next(30);
        if (chance == 0) {
            return new int[] {least - 1, most + 1, Integer.MAX_VALUE, Integer.MIN_VALUE}[next(4)];
        }
        return chance < 3 ? (chance == 1 ? least : most) : least + next(most - least + 1);
    }

    private void text() {
        StringBuilder text = new StringBuilder();
        int commands = 1 + next(7);
        for (int number = 0; number < commands; number++) {
            text.append(number == 0 ? "" : ";").append(command());
        }
        int fault = next(6);
        if (fault == 0 && text.length() > 0) {
            text.setCharAt(next(text.length()), "0123456789 ;-pcrlmaestx\u00e9".charAt(next(24)));
        } else if (fault == 1) {
            text.setLength(next(text.length() + 1));
        } else if (fault == 2) {
            text.insert(next(text.length() + 1), "09 ;-p".charAt(next(6)));
        }
        for (int index = 0; index < Math.min(text.length(), 79 + next(3)); index++) {
            bothAppend(text.charAt(index));
        }
        if (next(15) != 0) {
            both("read");
            both("faultPosition");
        }
    }

    private String command() {
        String word = WORDS[next(WORDS.length)];
        int today = registry.today();
        int item = next(Math.max(1, (int) registry.account(0) + (next(20) == 0 ? 3 : 0)));
        int other = next(Math.max(1, (int) registry.account(0)));
        return switch (word) {
            case "part" -> word + " " + next(next(20) == 0 ? 6 : 4) + " " + next(next(20) == 0 ? 2000 : 100);
            case "cal" -> word + " " + item + " " + other + " " + (next(3) == 0 ? "-" : "") + next(next(20) == 0 ? 1100 : 50);
            case "pass" -> word + " " + next(next(20) == 0 ? 1100 : 20);
            case "recall" -> word + " " + item + " " + Math.max(0, today - next(50)) + " " + next(next(2) == 0 ? 10000 : today + 1);
            case "lift" -> word + " " + next(Math.max(1, (int) registry.account(7)));
            case "measure" -> word + " " + item + " " + (next(3) == 0 ? "-" : "") + next(300) + " " + next(300);
            default -> word + " " + item;
        };
    }

    private void question() {
        switch (next(9)) {
            case 0 -> recall("reach");
            case 1 -> both("best", anItem());
            case 2 -> both("wouldRefuse", anItem(), anItem());
            case 3 -> both("write", edge((int) registry.account(5)));
            case 4 -> both("overdueWithin", number(0, 9999));
            case 5 -> both("due", edge((int) registry.account(0)));
            case 6 -> both("again", edge((int) registry.account(3)));
            case 7 -> both("calibration", edge((int) registry.account(1)), edge(13));
            default -> both("item", anItem(), edge(11));
        }
    }

    private void allQuestions() {
        for (String call : new String[] {"today", "faultPosition", "goodShare"}) {
            both(call);
        }
        compare("refusal", new Class<?>[] {boolean.class}, true);
        compare("refusal", new Class<?>[] {boolean.class}, false);
        for (int what = -1; what <= 11; what++) {
            both("account", what);
        }
        questionsOfItems((int) registry.account(0));
        questionsOfCalibrations((int) registry.account(1));
        table("recalled", (int) registry.account(7), 4);
        table("measurement", (int) registry.account(3), 8);
        table("certificate", (int) registry.account(5), 3);
        for (int index = -2; index <= 40; index++) {
            both("again", index);
            both("square", index);
            both("written", index);
            both("due", index);
        }
        for (int days = 0; days <= 9999; days += 1 + next(400)) {
            both("overdueWithin", days);
        }
    }

    private void questionsOfItems(int items) {
        table("item", items, 11);
        for (int item = 0; item < items; item++) {
            both("best", item);
            both("reach", item, 0, registry.today());
            for (int standard = 0; standard < items; standard++) {
                both("wouldRefuse", item, standard);
            }
        }
    }

    private void questionsOfCalibrations(int calibrations) {
        table("calibration", calibrations, 13);
        for (int calibration = -1; calibration <= calibrations; calibration++) {
            both("alongChain", calibration);
            both("cause", calibration);
            compare("variance", new Class<?>[] {int.class, boolean.class}, calibration, true);
            compare("variance", new Class<?>[] {int.class, boolean.class}, calibration, false);
            both("chain", calibration, next(62) - 1);
        }
    }

    private void table(String call, int rows, int columns) {
        for (int row = -1; row <= rows; row++) {
            for (int column = -1; column <= columns; column++) {
                both(call, row, column);
            }
        }
    }

    private void both(String call, Integer... numbers) {
        Class<?>[] types = new Class<?>[numbers.length];
        Arrays.fill(types, int.class);
        compare(call, types, (Object[]) numbers);
    }

    private void bothAppend(char c) {
        compare("append", new Class<?>[] {char.class}, c);
    }

    private void compare(String call, Class<?>[] types, Object... arguments) {
        if (isWrong) {
            return;
        }
        String got = outcome(registry, call, types, arguments);
        String due = outcome(model, call, types, arguments);
        calls.add(call + Arrays.toString(arguments) + " -> " + got);
        if (!got.equals(due)) {
            isWrong = true;
            System.out.println("run " + run + ", due is " + due + " in the last of " + calls.size() + " calls:");
            calls.subList(Math.max(0, calls.size() - 12), calls.size()).forEach(System.out::println);
        }
    }

    private static String outcome(Object object, String call, Class<?>[] types, Object[] arguments) {
        try {
            Method method = object.getClass().getDeclaredMethod(call, types);
            return String.valueOf(method.invoke(object, arguments));
        } catch (InvocationTargetException e) {
            return e.getCause().getClass().getName();
        } catch (ReflectiveOperationException e) {
            return "no such call: " + e;
        }
    }
}
