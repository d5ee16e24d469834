import java.util.HashSet;
import java.util.List;
import java.util.Map;
import java.util.Set;

/**
 * Tests of boundary cases, each bound to a sentence of the document: the place is the number of the promise that the
 * test is named after, and the term under which the sentence stands, if it does not stand in the promise itself. A
 * test fails also if the document has no such sentence there, and a sentence without a test fails at the end.
 */
final class Edges {
    /** A primary standard, a standard with the drift 10 and an instrument with the drift 4. */
    static final String ITEMS = """
            addItem(0, 0, 9, 0) -> 0
            addItem(1, 0, 90, 10) -> 1
            addItem(2, 0, 90, 4) -> 2
            """;
    /** Item 1 calibrated with 0, and 2 with 1: uncertainties 1, offsets 0 and 3. */
    static final String CALIBRATED = ITEMS + """
            calibrate(1, 0, 0) -> 0
            calibrate(2, 1, 3) -> 1
            """;
    /** Something of everything: also 8 changes that can be undone, a snapshot, an input, a refusal and a fault. */
    static final String RICH = CALIBRATED + """
            measure(2, 20, 30) -> 0
            issue(2) -> 0
            save() -> done
            pass(5) -> 5
            part(0, 3) -> 9
            recall(1, 2, 3) -> 0
            recall(2, 9, 9) -> 1
            write(0) -> 19
            calibrate(0, 0, 0) -> throws UnsupportedOperationException
            type pax
            read() -> throws IllegalArgumentException
            type pass 1;pa
            account(10) -> 8
            """;
    /** Sentences without a boundary case, beside those that isPlain knows. */
    private static final Map<String, List<String>> PLAIN = Map.ofEntries(
            Map.entry("3", List.of("Sets the tolerance, the drift, the rule or the base of an item.")),
            Map.entry("8", List.of("Returns the square or the sum.")),
            Map.entry("14", List.of("Returns the variance of a calibration or its growth.")));

    private final Document document;
    private final Set<String> tested = new HashSet<>();
    private final Set<Integer> promises = new HashSet<>();

    Edges(Document document) {
        this.document = document;
    }

    void test(String where, String words, String script) {
        int space = where.indexOf(' ');
        String promise = space < 0 ? where : where.substring(0, space);
        String place = where.substring(space + 1);
        String name = "promise " + promise + ": " + words;
        String sentence = document.sentenceWith(place, words);
        Script.count(sentence != null, name, "not one sentence of " + place + " has these words");
        tested.add(place + " " + sentence);
        promises.add(Integer.valueOf(promise));
        Script.run(name, script);
    }

    void finish() {
        for (Map.Entry<String, List<String>> place : document.places().entrySet()) {
            for (String sentence : place.getValue()) {
                boolean isNamedPlain = PLAIN.getOrDefault(place.getKey(), List.of()).contains(sentence);
                boolean isTested = tested.contains(place.getKey() + " " + sentence);
                Script.count(isTested || isNamedPlain || isPlain(sentence), place.getKey(), "no test for: " + sentence);
            }
        }
        for (int promise = 1; promise <= 39; promise++) {
            Script.count(promises.contains(promise), "promise " + promise, "no test is named after it");
        }
    }

    /** Whether a sentence only names what is given or answered, or what the call does. */
    private static boolean isPlain(String sentence) {
        boolean isWithoutCase = !sentence.matches(".*([0-9]| or | if |, ).*");
        return isWithoutCase && sentence.matches("(- `|Returns |Adds |Lets |Makes |Tells |Lifts |Writes |Appends |Judges ).*");
    }
}
