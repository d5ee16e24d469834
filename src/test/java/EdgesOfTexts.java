/** The boundary cases of texts. */
final class EdgesOfTexts {
    private static final String CALIBRATED = Edges.CALIBRATED;
    private static final String[] WORDS = {"part", "cal", "pass", "recall", "lift", "measure", "cert"};
    private static final String SEPARATORS = "A text consists of one or more commands with \";\" between two of them";
    private static final String COMMANDS = "A command is a word and its numbers, with one space before each number: part kind amount,"
            + " cal item standard offset, pass days, recall item first last, lift recall, measure item value limit, or cert item";
    private static final String DIGITS = "A number has 1 to 4 digits and does not begin with 0, except for 0 itself";
    private static final String SIGNS = "a minus sign may stand before an offset or a value alone, also before 0";
    private static final String ROOM = "The input holds at most 80 characters";
    private static final String CANNOT = "is the index of its first character that cannot continue a text";
    private static final String TOO_EARLY = "or the length of the text if it ends too early";
    private static final String REASONS = "A command is refused for the reason of the call for it, or for 10 if this call would throw an"
            + " exception for another cause";

    private final Edges edges;

    private EdgesOfTexts(Edges edges) {
        this.edges = edges;
    }

    static void run(Edges edges) {
        EdgesOfTexts texts = new EdgesOfTexts(edges);
        texts.separators();
        texts.commands();
        texts.numbers();
        texts.room();
        texts.faults();
        texts.words();
        texts.reasons();
    }

    /** A text that is carried out, with what must hold then. */
    private void sound(String words, String text, String afterwards) {
        int commands = text.split(";").length;
        edges.test("32 Texts", words, CALIBRATED + "type " + text + "\nread() -> " + commands + "\nfaultPosition() -> -1\n" + afterwards);
    }

    private void faulty(String words, String text, int position) {
        edges.test("33 Texts", words, CALIBRATED + "type " + text + "\nkeeps read() -> throws IllegalArgumentException\nfaultPosition() -> "
                + position + "\nrefusal(true) -> throws NoSuchElementException\ntype pass 1\nread() -> 1\ntoday() -> 1\n");
    }

    private void refused(String text, int reason, int command) {
        edges.test("32 Texts", REASONS, CALIBRATED + "type " + text + "\nkeeps read() -> throws UnsupportedOperationException\nrefusal(true) -> "
                + reason + "\nrefusal(false) -> " + command + "\nfaultPosition() -> -1\n");
    }

    private void separators() {
        sound(SEPARATORS, "pass 1", "today() -> 1\naccount(10) -> 6\n");
        sound(SEPARATORS, "pass 1;pass 2", "today() -> 3\naccount(10) -> 6\n");
        sound(SEPARATORS, "pass 10;" + "pass 1;".repeat(9) + "pass 988", "today() -> 1007\naccount(10) -> 6\n");
        faulty(SEPARATORS, "", 0);
        faulty(SEPARATORS, ";", 0);
        faulty(SEPARATORS, ";pass 1", 0);
        faulty(SEPARATORS, "pass 1;", 7);
        faulty(SEPARATORS, "pass 1;;", 7);
        faulty(SEPARATORS, "pass 1;;pass 1", 7);
        faulty(SEPARATORS, "pass 1,pass 1", 6);
        faulty(SEPARATORS, "pass 1 pass 1", 6);
        faulty(SEPARATORS, "pass 1pass 1", 6);
        faulty(SEPARATORS, "pass 1 ;pass 1", 6);
        faulty(SEPARATORS, "pass 1; pass 1", 7);
        faulty(SEPARATORS, "pass 1;pass 1;", 14);
        faulty(SEPARATORS, "pass 1;pass 1;x", 14);
    }

    private void commands() {
        sound(COMMANDS, "part 1 4", "square(0) -> 6\n");
        sound(COMMANDS, "cal 2 0 5", "calibration(2, 0) -> 2\ncalibration(2, 1) -> 0\ncalibration(2, 4) -> 5\n");
        sound(COMMANDS, "pass 12", "today() -> 12\n");
        sound(COMMANDS, "recall 1 3 4", "recalled(0, 0) -> 1\nrecalled(0, 1) -> 3\nrecalled(0, 2) -> 4\n");
        sound(COMMANDS, "recall 1 3 4;recall 2 5 6;lift 0", "account(7) -> 1\nrecalled(0, 0) -> 2\n");
        sound(COMMANDS, "measure 2 7 8", "measurement(0, 0) -> 2\nmeasurement(0, 3) -> 7\nmeasurement(0, 4) -> 8\n");
        sound(COMMANDS, "cert 2", "certificate(0, 0) -> 1\n");
        String[] whole = {"part 1 4", "cal 2 0 5", "pass 7", "recall 1 3 4", "lift 0", "measure 2 7 8", "cert 2"};
        for (String text : whole) {
            int length = text.length();
            int firstSpace = text.indexOf(' ');
            int lastSpace = text.lastIndexOf(' ');
            faulty(COMMANDS, text + " 1", length);
            faulty(COMMANDS, text + " ", length);
            faulty(COMMANDS, text.substring(0, lastSpace), lastSpace);
            faulty(COMMANDS, text.substring(0, lastSpace) + ";pass 1", lastSpace);
            faulty(COMMANDS, text.substring(0, lastSpace + 1) + ";pass 1", lastSpace + 1);
            faulty(COMMANDS, text.substring(0, lastSpace) + " " + text.substring(lastSpace), lastSpace + 1);
            faulty(COMMANDS, text.substring(0, firstSpace) + text.substring(firstSpace + 1), firstSpace);
            faulty(COMMANDS, text.substring(0, firstSpace) + "\t" + text.substring(firstSpace + 1), firstSpace);
            faulty(COMMANDS, " " + text, 0);
            faulty(COMMANDS, text.toUpperCase(), 0);
        }
    }

    private void numbers() {
        sound(DIGITS, "part 0 0", "square(0) -> 0\n");
        sound(DIGITS, "part 0 9", "square(0) -> 81\n");
        sound(DIGITS, "part 0 10", "square(0) -> 100\n");
        sound(DIGITS, "recall 1 1000 9999", "recalled(0, 1) -> 1000\nrecalled(0, 2) -> 9999\n");
        sound(DIGITS, "measure 2 -9999 1234", "measurement(0, 3) -> -9999\nmeasurement(0, 4) -> 1234\n");
        faulty(DIGITS, "recall 1 1000 10000", 18);
        faulty(DIGITS, "recall 1 10000 9999", 13);
        faulty(DIGITS, "recall 1 5 00", 12);
        faulty(DIGITS, "recall 1 5 01", 12);
        faulty(DIGITS, "recall 01 5 6", 8);
        faulty(DIGITS, "pass 01", 6);
        faulty(DIGITS, "pass 00", 6);
        faulty(DIGITS, "pass 0x", 6);
        faulty(DIGITS, "pass /", 5);
        faulty(DIGITS, "pass :", 5);
        faulty(DIGITS, "pass 1/", 6);
        faulty(DIGITS, "pass 1:", 6);
        faulty(DIGITS, "pass ;", 5);
        faulty(DIGITS, "measure 2 -99999 0", 15);
        sound(SIGNS, "cal 2 0 -0", "calibration(2, 4) -> 0\n");
        sound(SIGNS, "cal 2 0 -1", "calibration(2, 4) -> -1\n");
        sound(SIGNS, "measure 2 -0 0", "measurement(0, 3) -> 0\n");
        sound(SIGNS, "measure 2 -1 0", "measurement(0, 3) -> -1\n");
        faulty(SIGNS, "cal 2 0 --1", 9);
        faulty(SIGNS, "cal 2 0 -", 9);
        faulty(SIGNS, "cal 2 0 -;", 9);
        faulty(SIGNS, "cal 2 0 - 1", 9);
        faulty(SIGNS, "cal 2 0 -00", 10);
        faulty(SIGNS, "cal 2 0 -01", 10);
        faulty(SIGNS, "cal 2 0 1-", 9);
        faulty(SIGNS, "cal 2 0 +1", 8);
        faulty(SIGNS, "cal -2 0 1", 4);
        faulty(SIGNS, "cal 2 -0 1", 6);
        faulty(SIGNS, "measure -2 0 0", 8);
        faulty(SIGNS, "measure 2 0 -0", 12);
        faulty(SIGNS, "measure 2 -1 -1", 13);
        faulty(SIGNS, "part -0 1", 5);
        faulty(SIGNS, "part 0 -1", 7);
        faulty(SIGNS, "pass -1", 5);
        faulty(SIGNS, "recall -1 0 0", 7);
        faulty(SIGNS, "recall 1 -0 0", 9);
        faulty(SIGNS, "recall 1 0 -0", 11);
        faulty(SIGNS, "lift -0", 5);
        faulty(SIGNS, "cert -0", 5);
    }

    private void room() {
        edges.test("31 Texts", ROOM, CALIBRATED + """
                79 x append('p') -> done
                append(';') -> done
                keeps append('p') -> throws IllegalStateException
                keeps append('p') -> throws IllegalStateException
                read() -> throws IllegalArgumentException
                faultPosition() -> 1
                80 x append('x') -> done
                keeps append('x') -> throws IllegalStateException
                """);
        String full = "pass 10;" + "pass 1;".repeat(9) + "pass 1000";
        edges.test("31 Texts", ROOM, "type " + full.substring(0, 79) + "\nappend('0') -> done\nkeeps append('0') -> throws IllegalStateException\n"
                + "read() -> throws UnsupportedOperationException\nrefusal(true) -> 10\nrefusal(false) -> 10\n"
                + "type " + full.replace("1000", "0999").replace(" 0", " ") + "\nread() -> 11\ntoday() -> 1018\n");
        edges.test("33 Texts", TOO_EARLY, "type " + "pass 1;".repeat(11) + "lif\nkeeps append('t') -> throws IllegalStateException\n"
                + "keeps read() -> throws IllegalArgumentException\nfaultPosition() -> 80\ntoday() -> 0\n");
        edges.test("33 Texts", CANNOT, "type " + "pass 1;".repeat(11) + "lix\nkeeps read() -> throws IllegalArgumentException\n"
                + "faultPosition() -> 79\ntoday() -> 0\n");
    }

    private void faults() {
        String[] whole = {"part 12 34", "cal 12 3 -45", "pass 1234", "recall 1 23 45", "lift 12", "measure 12 -34 56", "cert 9;lift 12",
            "pass 1;cal 1 0 -5"};
        for (String text : whole) {
            for (int length = 0; length < text.length(); length++) {
                String begin = text.substring(0, length);
                if (!isWhole(begin, text)) {
                    faulty(TOO_EARLY, begin, length);
                }
                faulty(CANNOT, begin + "#" + text.substring(length), length);
            }
            faulty(CANNOT, text + "#", text.length());
            faulty(CANNOT, text + ";#", text.length() + 1);
        }
        edges.test("33 Texts", CANNOT, """
                append('\u00e9') -> done
                read() -> throws IllegalArgumentException
                faultPosition() -> 0
                type pass
                append('\u00a0') -> done
                read() -> throws IllegalArgumentException
                faultPosition() -> 4
                type pass\s
                append('\u0661') -> done
                read() -> throws IllegalArgumentException
                faultPosition() -> 5
                append('\0') -> done
                append('\uffff') -> done
                read() -> throws IllegalArgumentException
                faultPosition() -> 0
                """);
        edges.test("33 Texts", CANNOT, CALIBRATED + """
                type pass 1000;pass 0;pass x
                keeps read() -> throws IllegalArgumentException
                faultPosition() -> 22
                refusal(true) -> throws NoSuchElementException
                type pass 1;part 0 1;cal 1 0 0;cert 1x
                keeps read() -> throws IllegalArgumentException
                faultPosition() -> 32
                """);
    }

    /** Whether the beginning of a text ends in the last number of one of its commands. */
    private static boolean isWhole(String begin, String text) {
        int start = begin.lastIndexOf(';') + 1;
        int end = text.indexOf(';', start);
        int lastNumber = text.substring(start, end < 0 ? text.length() : end).lastIndexOf(' ') + 1 + start;
        return begin.length() > lastNumber && begin.substring(lastNumber).matches("-?[0-9]+");
    }

    /** Each letter behind each beginning of a word. */
    private void words() {
        for (String word : WORDS) {
            for (int length = 0; length < word.length(); length++) {
                StringBuilder script = new StringBuilder();
                String begin = word.substring(0, length);
                for (char letter = 'a'; letter <= 'z'; letter++) {
                    boolean isThere = false;
                    for (String other : WORDS) {
                        isThere |= other.startsWith(begin + letter);
                    }
                    script.append("type ").append(begin).append(letter).append("\nread() -> throws IllegalArgumentException\n");
                    script.append("faultPosition() -> ").append(isThere ? length + 1 : length).append('\n');
                }
                edges.test("33 Texts", CANNOT, script.toString());
            }
            edges.test("33 Texts", CANNOT, "type " + word + word.charAt(word.length() - 1)
                    + "\nread() -> throws IllegalArgumentException\nfaultPosition() -> " + word.length() + "\n");
        }
    }

    private void reasons() {
        sound(REASONS, "part 3 999", "square(0) -> 499001\n");
        refused("part 4 999", 10, 0);
        refused("part 3 1000", 10, 0);
        sound(REASONS, "pass 999", "today() -> 999\n");
        sound(REASONS, "pass 1", "today() -> 1\n");
        refused("pass 0", 10, 0);
        refused("pass 1000", 10, 0);
        refused("pass 1;pass 1;pass 0;pass 1", 10, 2);
        sound(REASONS, "cal 2 1 -999;cal 1 0 999", "account(1) -> 4\n");
        refused("cal 2 1 -1000", 10, 0);
        refused("cal 3 0 0", 10, 0);
        refused("cal 2 3 0", 10, 0);
        refused("cal 0 0 1000", 10, 0);
        refused("cal 0 0 999", 1, 0);
        refused("cal 1 1 0", 1, 0);
        refused("cal 1 2 0", 1, 0);
        refused("pass 100;cal 2 1 0;pass 1;cal 2 1 0", 4, 3);
        refused("recall 1 0 0;cal 2 1 0", 3, 1);
        sound(REASONS, "recall 2 9999 9999;recall 0 0 9999", "account(7) -> 2\n");
        refused("recall 3 0 0", 10, 0);
        refused("recall 2 5 4", 10, 0);
        refused("recall 2 9999 0", 10, 0);
        refused("lift 0", 10, 0);
        refused("recall 2 1 1;lift 1", 10, 1);
        refused("recall 2 1 1;lift 0;lift 0", 10, 2);
        sound(REASONS, "measure 2 -9999 9999;measure 2 9999 0", "account(3) -> 2\n");
        refused("measure 3 0 0", 10, 0);
        refused("measure 1 0 0", 6, 0);
        refused("measure 0 0 0", 6, 0);
        refused("recall 0 0 0;measure 2 0 0", 3, 1);
        refused("pass 100;measure 2 0 0;pass 1;measure 2 0 0", 4, 3);
        sound(REASONS, "cert 2;cert 1", "account(5) -> 2\n");
        refused("cert 3", 10, 0);
        refused("cert 0", 3, 0);
        refused("pass 100;cert 2;pass 1;cert 2", 4, 3);
        refused("cal 2 0 88;cert 2;cal 2 0 89;cert 2", 8, 3);
        edges.test("32 Texts", REASONS, CALIBRATED.replace("addItem(2, 0", "addItem(2, 1") .replace("calibrate(2, 1, 3) -> 1\n", "") + """
                type cal 2 0 0
                keeps read() -> throws UnsupportedOperationException
                refusal(true) -> 2
                refusal(false) -> 0
                """);
        edges.test("32 Texts", REASONS, CALIBRATED + """
                10 x pass(999)
                type pass 10
                keeps read() -> throws UnsupportedOperationException
                refusal(true) -> 10
                type pass 9;pass 1
                keeps read() -> throws UnsupportedOperationException
                refusal(false) -> 1
                type pass 9
                read() -> 1
                today() -> 9999
                """);
    }
}
