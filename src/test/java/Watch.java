import java.util.ArrayList;
import java.util.LinkedHashMap;
import java.util.List;
import java.util.Map;

/**
 * Everything that can be asked of an object after a run of calls, in sections. The run is played again on new objects
 * for every few hundred questions, so that no object has more calls than are promised and no question disturbs another.
 */
final class Watch {
    private static final String STATE = "the state";
    private static final String UNDONE = "the state after undoing ";
    private static final String SNAPSHOT = "the state after restoring";
    private static final String INPUT = "the input";
    private static final String FAULT = "the fault position";
    private static final String REFUSAL = "the refusal";
    private static final String WRITTEN = "what was written";

    private Watch() {
    }

    /** What a call changes that it must not change, or nothing. */
    static String difference(List<String> calls, String call) {
        List<String> longer = new ArrayList<>(calls);
        longer.add(call);
        String answer = new Player(calls).answer(call);
        Map<String, String> before = sections(calls);
        Map<String, String> after = sections(longer);
        boolean isRefused = answer.equals("throws UnsupportedOperationException");
        StringBuilder changed = new StringBuilder();
        for (Map.Entry<String, String> section : before.entrySet()) {
            String name = section.getKey();
            boolean isFree = name.equals(REFUSAL) && isRefused
                    || call.equals("read()") && (name.equals(INPUT) || name.equals(FAULT));
            if (!isFree && !section.getValue().equals(after.get(name))) {
                changed.append("\n  ").append(call).append(" changed ").append(name);
            }
        }
        if (after.size() != before.size()) {
            changed.append("\n  ").append(call).append(" changed how many changes can be undone");
        }
        return changed.toString();
    }

    private static Map<String, String> sections(List<String> calls) {
        Map<String, String> sections = new LinkedHashMap<>();
        sections.put(STATE, state(calls));
        List<String> undone = new ArrayList<>(calls);
        long changes = Long.parseLong(new Player(calls).answer("account(10)"));
        for (int number = 1; number <= changes; number++) {
            undone.add("undo()");
            sections.put(UNDONE + number, state(undone));
        }
        sections.put(UNDONE + "more", answers(undone, List.of("account(10)", "undo()")));
        List<String> restored = new ArrayList<>(calls);
        restored.add("restore()");
        sections.put(SNAPSHOT, answers(calls, List.of("restore()")) + state(restored));
        sections.put(INPUT, input(calls));
        sections.put(FAULT, answers(calls, List.of("faultPosition()")));
        sections.put(REFUSAL, answers(calls, List.of("refusal(true)", "refusal(false)")));
        sections.put(WRITTEN, answers(calls, List.of("text")));
        return sections;
    }

    private static String answers(List<String> calls, List<String> questions) {
        StringBuilder all = new StringBuilder();
        Player player = new Player(calls);
        int first = player.calls();
        for (String question : questions) {
            if (player.calls() >= Player.MOST_CALLS && first < Player.MOST_CALLS) {
                player = new Player(calls);
            }
            all.append(question).append(' ').append(player.answer(question)).append('\n');
        }
        return all.toString();
    }

    /** How many characters it takes still, and what it is as a text, with several ends. */
    private static String input(List<String> calls) {
        Player filled = new Player(calls);
        int room = 0;
        while (room < 100 && filled.answer("append('x')").equals("done")) {
            room++;
        }
        StringBuilder all = new StringBuilder("room for " + room + "\n");
        for (String end : new String[] {"", "ss 7", "s 7", " 7", "7", "x"}) {
            all.append(answers(calls, List.of("type " + end, "read()", "faultPosition()", "today()", "account(9)")));
        }
        return all.toString();
    }

    static String state(List<String> calls) {
        Player counts = new Player(calls);
        int[] sizes = new int[10];
        for (int what = 0; what < sizes.length; what++) {
            sizes[what] = Integer.parseInt(counts.answer("account(" + what + ")"));
        }
        List<String> questions = new ArrayList<>(List.of("today()", "goodShare()"));
        table(questions, "square(%d)", -1, sizes[9]);
        table(questions, "account(%d)", 0, 9);
        questionsOfItems(questions, sizes[0]);
        questionsOfCalibrations(questions, sizes[1]);
        rows(questions, "recalled", sizes[7], 3);
        rows(questions, "measurement", sizes[3], 7);
        table(questions, "again(%d)", 0, sizes[3]);
        rows(questions, "certificate", sizes[5], 2);
        return answers(calls, questions);
    }

    private static void questionsOfItems(List<String> questions, int items) {
        rows(questions, "item", items, 10);
        table(questions, "best(%d)", 0, items);
        table(questions, "reach(%d, 0, 9999)", 0, items);
        table(questions, "reach(%d, 1, 9)", 0, items);
        table(questions, "due(%d)", 0, items);
        for (int item = 0; item < items; item++) {
            for (int standard = 0; standard < items; standard++) {
                questions.add("wouldRefuse(" + item + ", " + standard + ")");
            }
        }
        for (int days : new int[] {0, 1, 99, 100, 101, 999, 9999}) {
            questions.add("overdueWithin(" + days + ")");
        }
    }

    private static void questionsOfCalibrations(List<String> questions, int calibrations) {
        rows(questions, "calibration", calibrations, 12);
        table(questions, "variance(%d, true)", 0, calibrations);
        table(questions, "variance(%d, false)", 0, calibrations);
        table(questions, "alongChain(%d)", 0, calibrations);
        table(questions, "cause(%d)", 0, calibrations);
        table(questions, "chain(%d, 1)", 0, calibrations);
    }

    private static void rows(List<String> questions, String call, int size, int lastColumn) {
        for (int column = 0; column <= lastColumn; column++) {
            table(questions, call + "(%d, " + column + ")", 0, size);
        }
    }

    private static void table(List<String> questions, String call, int first, int last) {
        for (int number = first; number <= last; number++) {
            questions.add(call.replace("%d", String.valueOf(number)));
        }
    }
}
