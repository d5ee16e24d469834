import java.util.ArrayList;
import java.util.LinkedHashMap;
import java.util.List;
import java.util.Map;
import java.util.regex.Matcher;
import java.util.regex.Pattern;

/** The sentences of the document's terms and promises, by the places where they stand: "Items" or "17". */
final class Document {
    // A name, a point and the first sentence behind it.
    private static final Pattern TERM = Pattern.compile("([A-Z][a-z]+)\\. (.*)");

    private final Map<String, List<String>> places = new LinkedHashMap<>();

    Document(String document) {
        String terms = document.substring(document.indexOf("## Terms\n") + 9, document.indexOf("\nExamples:\n"));
        String place = "";
        for (String paragraph : terms.strip().split("\n\\s*\n")) {
            String words = paragraph.replaceAll("\\s+", " ");
            Matcher matcher = TERM.matcher(words);
            if (matcher.matches()) {
                place = matcher.group(1);
                words = matcher.group(2);
            }
            // The list of reasons goes over an empty line.
            add(place, words);
        }
        String promises = document.substring(document.indexOf("## Promise 1:"), document.indexOf("## Not promised"));
        for (String section : promises.split("(?m)^## Promise ")) {
            if (!section.isBlank()) {
                addPromise(section);
            }
        }
    }

    private void addPromise(String section) {
        String number = section.substring(0, section.indexOf(':'));
        String body = section.substring(section.indexOf('\n')).strip();
        String signature = body.substring(0, body.indexOf("`:") + 3);
        for (String paragraph : body.substring(signature.length()).split("\n\\s*\n|\n(?=- )")) {
            add(number, paragraph.replaceAll("\\s+", " ").strip());
        }
    }

    private void add(String place, String words) {
        List<String> sentences = places.computeIfAbsent(place, p -> new ArrayList<>());
        for (String sentence : words.split("(?<=\\.) (?=[A-Z])")) {
            if (!sentence.isBlank()) {
                sentences.add(sentence);
            }
        }
    }

    Map<String, List<String>> places() {
        return places;
    }

    /** The one sentence of a place in which the words stand, or nothing. */
    String sentenceWith(String place, String words) {
        String found = null;
        for (String sentence : places.getOrDefault(place, List.of())) {
            if (sentence.contains(words)) {
                if (found != null) {
                    return null;
                }
                found = sentence;
            }
        }
        return found;
    }
}
