/** The boundary cases that stand under "Terms", but for those of texts. */
final class EdgesOfTerms {
    private static final String ITEMS = Edges.ITEMS;
    private static final String CALIBRATED = Edges.CALIBRATED;
    private static final String RICH = Edges.RICH;

    private final Edges edges;

    private EdgesOfTerms(Edges edges) {
        this.edges = edges;
    }

    static void run(Edges edges) {
        EdgesOfTerms terms = new EdgesOfTerms(edges);
        terms.days();
        terms.items();
        terms.parts();
        terms.calibrations();
        terms.variances();
        terms.recalls();
        terms.reaches();
        terms.rules();
        terms.measurements();
        terms.verdicts();
        terms.certificates();
        terms.refusedCalibrations();
        terms.refusedOthers();
        terms.costs();
        terms.changes();
        terms.snapshots();
        terms.details();
        terms.exceptions();
    }

    private void days() {
        edges.test("6 Days", "the present day is 0 at first", ITEMS + """
                today() -> 0
                calibrate(1, 0, 0) -> 0
                calibration(0, 3) -> 0
                pass(1) -> 1
                today() -> 1
                calibrate(1, 0, 0) -> 1
                calibration(1, 3) -> 1
                """);
        edges.test("5 Days", "Days are counted from 0 to 9999", ITEMS + """
                10 x pass(999)
                pass(8) -> 9998
                keeps pass(2) -> throws IllegalStateException
                keeps pass(999) -> throws IllegalStateException
                pass(1) -> 9999
                keeps pass(1) -> throws IllegalStateException
                today() -> 9999
                calibrate(1, 0, 0) -> 0
                calibration(0, 3) -> 9999
                2 x undo()
                today() -> 9998
                type pass 1
                read() -> 1
                today() -> 9999
                type pass 1
                keeps read() -> throws UnsupportedOperationException
                refusal(true) -> 10
                """);
        String firstAndLast = ITEMS + """
                calibrate(1, 0, 0) -> 0
                10 x pass(999)
                pass(9) -> 9999
                calibrate(1, 0, 0) -> 1
                """;
        edges.test("18 Days", "Days are counted from 0 to 9999", firstAndLast + """
                keeps recall(0, -1, 0) -> throws IllegalArgumentException
                keeps recall(0, -1, -1) -> throws IllegalArgumentException
                keeps recall(0, 9999, 10000) -> throws IllegalArgumentException
                keeps recall(0, 10000, 10000) -> throws IllegalArgumentException
                recall(0, 1, 9998) -> 0
                account(2) -> 2
                recall(0, 0, 0) -> 1
                calibration(0, 10) -> 0
                calibration(1, 10) -> 1
                recall(0, 9999, 9999) -> 2
                calibration(1, 10) -> 0
                """);
        edges.test("21 Days", "Days are counted from 0 to 9999", firstAndLast + """
                keeps reach(0, -1, 0) -> throws IllegalArgumentException
                keeps reach(0, 9999, 10000) -> throws IllegalArgumentException
                keeps reach(0, 10000, 10000) -> throws IllegalArgumentException
                reach(0, 0, 0) -> 1
                reach(0, 9999, 9999) -> 1
                reach(0, 1, 9998) -> 0
                keeps reach(0, 0, 9999) -> 2
                """);
    }

    private void items() {
        edges.test("2 Items", "At most 16 items are kept, numbered from 0", """
                addItem(0, 1, 9, 0) -> 0
                addItem(1, 1, 90, 0) -> 1
                13 x addItem(1, 0, 5, 5)
                account(0) -> 15
                item(15, 0) -> throws IndexOutOfBoundsException
                addItem(2, 1, 90, 0) -> 15
                account(0) -> 16
                keeps addItem(2, 1, 90, 0) -> throws IllegalStateException
                item(15, 0) -> 2
                item(16, 0) -> throws IndexOutOfBoundsException
                calibrate(15, 0, 3) -> 0
                due(0) -> 15
                type measure 15 3 9;cert 15
                read() -> 2
                type cert 16
                keeps read() -> throws UnsupportedOperationException
                refusal(true) -> 10
                undo() -> 7
                undo() -> 6
                undo() -> 5
                account(0) -> 15
                addItem(0, 2, 1, 99) -> 15
                keeps addItem(0, 2, 1, 99) -> throws IllegalStateException
                item(15, 7) -> -1
                """);
        edges.test("2 Items", "An item is of a kind, 0 a primary standard, 1 a standard or 2 an instrument", RICH + """
                keeps addItem(-1, 0, 5, 5) -> throws IndexOutOfBoundsException
                keeps addItem(3, 0, 5, 5) -> throws IndexOutOfBoundsException
                addItem(0, 0, 5, 5) -> 3
                addItem(2, 0, 5, 5) -> 4
                addItem(1, 0, 5, 5) -> 5
                item(3, 0) -> 0
                item(4, 0) -> 2
                item(5, 0) -> 1
                """);
        edges.test("2 Items", "belongs to a quantity from 0 to 3", RICH + """
                keeps addItem(0, -1, 5, 5) -> throws IndexOutOfBoundsException
                keeps addItem(0, 4, 5, 5) -> throws IndexOutOfBoundsException
                addItem(0, 0, 5, 5) -> 3
                addItem(0, 3, 5, 5) -> 4
                item(3, 1) -> 0
                item(4, 1) -> 3
                """);
        edges.test("2 Items", "It has a tolerance from 1 to 999", RICH + """
                keeps addItem(1, 1, 0, 5) -> throws IllegalArgumentException
                keeps addItem(1, 1, 1000, 5) -> throws IllegalArgumentException
                addItem(1, 1, 1, 5) -> 3
                addItem(1, 1, 999, 5) -> 4
                item(3, 2) -> 1
                item(4, 2) -> 999
                """);
        edges.test("2 Items", "a drift from 0 to 99", RICH + """
                keeps addItem(1, 1, 5, -1) -> throws IllegalArgumentException
                keeps addItem(1, 1, 5, 100) -> throws IllegalArgumentException
                addItem(1, 1, 5, 0) -> 3
                addItem(1, 1, 5, 99) -> 4
                item(3, 3) -> 0
                item(4, 3) -> 99
                """);
        edges.test("3 Items", "It has a tolerance from 1 to 999", RICH + """
                keeps set(1, 0, 0) -> throws IllegalArgumentException
                keeps set(1, 0, 1000) -> throws IllegalArgumentException
                set(1, 0, 1) -> 90
                item(1, 2) -> 1
                set(1, 0, 999) -> 1
                item(1, 2) -> 999
                """);
        edges.test("3 Items", "a drift from 0 to 99", RICH + """
                keeps set(1, 1, -1) -> throws IllegalArgumentException
                keeps set(1, 1, 100) -> throws IllegalArgumentException
                set(1, 1, 0) -> 10
                item(1, 3) -> 0
                set(1, 1, 99) -> 0
                item(1, 3) -> 99
                """);
        edges.test("3 Items", "a rule from 0 to 3, which is 0 at first", RICH + """
                item(0, 4) -> 0
                item(1, 4) -> 0
                item(2, 4) -> 0
                keeps set(2, 2, -1) -> throws IllegalArgumentException
                keeps set(2, 2, 4) -> throws IllegalArgumentException
                set(2, 2, 3) -> 0
                item(2, 4) -> 3
                set(2, 2, 0) -> 3
                item(2, 4) -> 0
                """);
        edges.test("2 Items", "a rule from 0 to 3, which is 0 at first", ITEMS + """
                addItem(0, 1, 7, 7) -> 3
                save() -> done
                addItem(2, 1, 7, 7) -> 4
                set(4, 2, 3) -> 0
                set(4, 3, 7) -> 100
                calibrate(4, 3, 5) -> 0
                restore() -> done
                account(0) -> 4
                addItem(1, 2, 8, 8) -> 4
                item(4, 4) -> 0
                item(4, 5) -> 100
                item(4, 6) -> 0
                item(4, 7) -> -1
                item(4, 10) -> 0
                """);
        edges.test("3 Items", "a base from 1 to 999", RICH + """
                keeps set(2, 3, 0) -> throws IllegalArgumentException
                keeps set(2, 3, 1000) -> throws IllegalArgumentException
                set(2, 3, 1) -> 100
                item(2, 5) -> 1
                set(2, 3, 999) -> 1
                item(2, 5) -> 999
                set(0, 3, 999) -> 1
                set(0, 3, 1) -> 999
                """);
        edges.test("4 Items", "which is 1 at first for a primary standard and 100 for other items", ITEMS + """
                item(0, 5) -> 1
                item(1, 5) -> 100
                item(2, 5) -> 100
                """);
    }

    private void parts() {
        edges.test("7 Parts", "A part of a budget has a kind from 0 to 3", RICH + """
                keeps part(-1, 5) -> throws IndexOutOfBoundsException
                keeps part(4, 5) -> throws IndexOutOfBoundsException
                part(0, 5) -> 25
                part(3, 5) -> 13
                """);
        edges.test("7 Parts", "an amount from 0 to 999", RICH + """
                keeps part(0, -1) -> throws IllegalArgumentException
                keeps part(3, 1000) -> throws IllegalArgumentException
                part(0, 0) -> 0
                part(0, 999) -> 998001
                square(1) -> 0
                square(2) -> 998001
                square(-1) -> 998010
                """);
        edges.test("7 Parts", "Its square is the amount times itself, divided by 1, 3, 6 or 2 for the kinds 0 to 3, and rounded up", """
                part(0, 0) -> 0
                part(0, 1) -> 1
                part(0, 2) -> 4
                part(0, 999) -> 998001
                clearParts() -> 4
                part(1, 0) -> 0
                part(1, 1) -> 1
                part(1, 2) -> 2
                part(1, 3) -> 3
                part(1, 4) -> 6
                part(1, 999) -> 332667
                clearParts() -> 6
                part(2, 0) -> 0
                part(2, 1) -> 1
                part(2, 2) -> 1
                part(2, 3) -> 2
                part(2, 5) -> 5
                part(2, 6) -> 6
                clearParts() -> 6
                part(2, 7) -> 9
                part(2, 996) -> 165336
                part(2, 999) -> 166334
                clearParts() -> 3
                part(3, 0) -> 0
                part(3, 1) -> 1
                part(3, 2) -> 2
                part(3, 3) -> 5
                part(3, 998) -> 498002
                part(3, 999) -> 499001
                """);
        edges.test("7 Parts", "There is a list of at most 6 parts, which is empty at first", """
                account(9) -> 0
                square(0) -> throws NoSuchElementException
                square(-1) -> 0
                clearParts() -> 0
                5 x part(0, 1)
                part(0, 2) -> 4
                account(9) -> 6
                keeps part(0, 3) -> throws IllegalStateException
                keeps part(0, 0) -> throws IllegalStateException
                square(5) -> 4
                square(6) -> throws NoSuchElementException
                square(-1) -> 9
                undo() -> 6
                part(0, 3) -> 9
                keeps part(0, 3) -> throws IllegalStateException
                clearParts() -> 6
                6 x part(1, 1)
                keeps part(1, 1) -> throws IllegalStateException
                """);
        edges.test("32 Parts", "There is a list of at most 6 parts", """
                type part 0 1;part 0 1;part 0 1;part 0 1;part 0 1;part 0 2
                read() -> 6
                square(5) -> 4
                type part 0 1
                keeps read() -> throws UnsupportedOperationException
                refusal(true) -> 10
                refusal(false) -> 0
                undo() -> 0
                type part 0 1;part 0 1;part 0 1;part 0 1;part 0 1;part 0 1;part 0 1
                keeps read() -> throws UnsupportedOperationException
                refusal(true) -> 10
                refusal(false) -> 6
                account(9) -> 0
                """);
    }

    private void calibrations() {
        edges.test("10 Calibrations", "At most 60 calibrations are kept, numbered from 0 in the order in which they were made", ITEMS + """
                calibrate(1, 0, 1) -> 0
                calibrate(2, 0, 2) -> 1
                57 x calibrate(2, 0, 3)
                wouldRefuse(2, 0) -> 0
                best(2) -> 0
                calibrate(1, 0, 9) -> 59
                account(1) -> 60
                keeps calibrate(2, 0, 3) -> throws UnsupportedOperationException
                refusal(true) -> 5
                refusal(false) -> -1
                wouldRefuse(2, 0) -> 5
                calibration(0, 4) -> 1
                calibration(1, 4) -> 2
                calibration(59, 4) -> 9
                calibration(60, 0) -> throws IndexOutOfBoundsException
                type cal 2 0 3
                read() -> throws UnsupportedOperationException
                refusal(true) -> 5
                refusal(false) -> 0
                undo() -> 7
                account(1) -> 59
                calibrate(2, 1, 8) -> 59
                calibration(59, 2) -> 0
                """);
        edges.test("10 Calibrations", "is made on the present day with a standard, which is another item that is no instrument", RICH + """
                addItem(2, 0, 5, 5) -> 3
                keeps calibrate(1, 1, 0) -> throws UnsupportedOperationException
                keeps calibrate(3, 2, 0) -> throws UnsupportedOperationException
                calibrate(3, 1, 0) -> 2
                calibration(2, 3) -> 5
                calibrate(3, 0, 0) -> 3
                pass(1) -> 6
                calibration(3, 3) -> 5
                """);
        edges.test("10 Calibrations", "it tells an offset from -999 to 999", RICH + """
                keeps calibrate(2, 0, -1000) -> throws IllegalArgumentException
                keeps calibrate(2, 0, 1000) -> throws IllegalArgumentException
                calibrate(2, 0, -999) -> 2
                calibrate(2, 0, 999) -> 3
                calibration(2, 4) -> -999
                calibration(3, 4) -> 999
                """);
        edges.test("32 Calibrations", "it tells an offset from -999 to 999", CALIBRATED + """
                type cal 2 0 1000
                keeps read() -> throws UnsupportedOperationException
                refusal(true) -> 10
                type cal 2 0 -1000
                keeps read() -> throws UnsupportedOperationException
                refusal(true) -> 10
                type cal 2 0 999;cal 2 0 -999
                read() -> 2
                calibration(2, 4) -> 999
                calibration(3, 4) -> -999
                """);
        edges.test("10 Calibrations", "If the standard is a primary one, the calibration has no source", CALIBRATED + """
                calibration(0, 2) -> -1
                pass(999) -> 999
                calibrate(2, 0, 0) -> 2
                calibration(2, 2) -> -1
                calibration(2, 11) -> 1
                """);
        edges.test("10 Calibrations", "otherwise its source is the current calibration of the standard at that time", CALIBRATED + """
                calibration(1, 2) -> 0
                calibrate(1, 0, 5) -> 2
                calibration(1, 2) -> 0
                calibrate(2, 1, 0) -> 3
                calibration(3, 2) -> 2
                pass(1) -> 1
                calibrate(1, 0, 6) -> 4
                recall(1, 1, 1) -> 0
                calibrate(2, 1, 0) -> 5
                calibration(5, 2) -> 2
                lift(0) -> 0
                calibration(5, 2) -> 2
                calibrate(2, 1, 0) -> 6
                calibration(6, 2) -> 4
                """);
        edges.test("10 Calibrations", "Its own square is the sum of the squares of the parts in the list", ITEMS + """
                calibrate(1, 0, 0) -> 0
                calibration(0, 5) -> 0
                part(0, 3) -> 9
                calibrate(1, 0, 0) -> 1
                calibration(1, 5) -> 9
                calibrate(1, 0, 0) -> 2
                calibration(2, 5) -> 0
                6 x part(0, 999)
                calibrate(1, 0, 0) -> 3
                calibration(3, 5) -> 5988006
                """);
        edges.test("10 Calibrations", "which is empty afterwards", ITEMS + """
                6 x part(2, 1)
                calibrate(1, 0, 0) -> 0
                account(9) -> 0
                square(-1) -> 0
                square(0) -> throws NoSuchElementException
                clearParts() -> 0
                6 x part(2, 1)
                keeps part(2, 1) -> throws IllegalStateException
                7 x undo()
                account(9) -> 0
                undo() -> 0
                account(9) -> 6
                square(-1) -> 6
                """);
    }

    private void variances() {
        edges.test("14 Calibrations", "Its growth is 0 without a source", ITEMS + """
                set(0, 1, 99) -> 0
                pass(999) -> 999
                calibrate(1, 0, 0) -> 0
                variance(0, true) -> 0
                variance(0, false) -> 1
                """);
        edges.test("14 Calibrations", "otherwise it is g times g, where g is the drift of the standard times the number of days since its"
                + " source was made, divided by 100 and rounded up", ITEMS + """
                calibrate(1, 0, 0) -> 0
                calibrate(2, 1, 0) -> 1
                variance(1, true) -> 0
                pass(1) -> 1
                calibrate(2, 1, 0) -> 2
                variance(2, true) -> 1
                pass(9) -> 10
                calibrate(2, 1, 0) -> 3
                variance(3, true) -> 1
                pass(1) -> 11
                calibrate(2, 1, 0) -> 4
                variance(4, true) -> 4
                set(1, 1, 0) -> 10
                calibrate(2, 1, 0) -> 5
                variance(5, true) -> 0
                set(1, 1, 99) -> 0
                set(1, 3, 999) -> 100
                pass(89) -> 100
                calibrate(2, 1, 0) -> 6
                variance(6, true) -> 9801
                pass(899) -> 999
                calibrate(2, 1, 0) -> 7
                variance(7, true) -> 980100
                """);
        edges.test("14 Calibrations", "Its variance is its own square plus its growth plus the variance of its source", ITEMS + """
                part(0, 2) -> 4
                calibrate(1, 0, 0) -> 0
                variance(0, false) -> 5
                calibrate(2, 1, 0) -> 1
                variance(1, false) -> 5
                pass(11) -> 11
                part(0, 3) -> 9
                calibrate(2, 1, 0) -> 2
                variance(2, false) -> 18
                """);
        edges.test("14 Calibrations", "without a source, plus the base of the standard times itself", ITEMS + """
                calibrate(1, 0, 0) -> 0
                variance(0, false) -> 1
                set(0, 3, 999) -> 1
                calibrate(1, 0, 0) -> 1
                variance(1, false) -> 998001
                set(0, 3, 2) -> 999
                part(0, 1) -> 1
                calibrate(1, 0, 0) -> 2
                variance(2, false) -> 5
                """);
        edges.test("13 Calibrations", "Its uncertainty is the least whole number whose square is at least the variance", ITEMS + """
                calibrate(1, 0, 0) -> 0
                calibration(0, 6) -> 1
                part(0, 1) -> 1
                calibrate(1, 0, 0) -> 1
                calibration(1, 6) -> 2
                set(0, 3, 2) -> 1
                calibrate(1, 0, 0) -> 2
                calibration(2, 6) -> 2
                part(0, 1) -> 1
                calibrate(1, 0, 0) -> 3
                calibration(3, 6) -> 3
                part(0, 2) -> 4
                calibrate(1, 0, 0) -> 4
                calibration(4, 6) -> 3
                set(0, 3, 999) -> 2
                calibrate(1, 0, 0) -> 5
                calibration(5, 6) -> 999
                part(0, 1) -> 1
                calibrate(1, 0, 0) -> 6
                calibration(6, 6) -> 1000
                """);
        edges.test("15 Calibrations", "Its uncertainty is the least whole number whose square is at least the variance", greatest() + """
                variance(59, false) -> 370079361
                alongChain(59) -> 370079361
                calibration(59, 6) -> 19238
                calibration(59, 9) -> 0
                calibration(59, 11) -> 60
                chain(59, 59) -> 0
                chain(59, 60) -> throws NoSuchElementException
                calibration(0, 12) -> 59
                reach(0, 0, 0) -> 60
                recall(0, 0, 0) -> 0
                account(2) -> 0
                cause(59) -> 0
                goodShare() -> 0.0
                lift(0) -> 0
                account(2) -> 60
                """);
        edges.test("14 Calibrations", "All these numbers stay as they were when the calibration was made", CALIBRATED + """
                pass(11) -> 11
                calibrate(2, 1, -3) -> 2
                variance(2, true) -> 4
                variance(2, false) -> 5
                set(0, 3, 999) -> 1
                set(1, 1, 99) -> 10
                set(2, 1, 99) -> 4
                pass(50) -> 61
                calibrate(1, 0, 5) -> 3
                recall(1, 0, 0) -> 0
                variance(2, true) -> 4
                variance(2, false) -> 5
                alongChain(2) -> 5
                calibration(2, 1) -> 1
                calibration(2, 2) -> 0
                calibration(2, 3) -> 11
                calibration(2, 4) -> -3
                calibration(2, 5) -> 0
                calibration(2, 6) -> 3
                """);
    }

    /** The greatest variance that there can be: 60 calibrations with 6 parts each, and 10 of them with 999 days between. */
    private static String greatest() {
        StringBuilder script = new StringBuilder("""
                addItem(0, 0, 999, 0) -> 0
                addItem(1, 0, 999, 99) -> 1
                addItem(1, 0, 999, 99) -> 2
                set(0, 3, 999) -> 1
                set(1, 3, 999) -> 100
                set(2, 3, 999) -> 100
                6 x part(0, 999)
                calibrate(1, 0, 0) -> 0
                """);
        for (int number = 1; number < 60; number++) {
            script.append(number <= 10 ? "pass(999) -> " + number * 999 + "\n" : "");
            script.append("6 x part(0, 999)\n");
            script.append(number % 2 == 1 ? "calibrate(2, 1, 999)" : "calibrate(1, 2, -999)").append(" -> " + number + "\n");
        }
        return script.toString();
    }

    private void recalls() {
        edges.test("18 Recalls", "is in force until it is lifted", CALIBRATED + """
                recall(1, 0, 0) -> 0
                calibration(0, 10) -> 0
                10 x pass(999)
                pass(9) -> 9999
                calibration(0, 10) -> 0
                account(7) -> 1
                lift(0) -> 0
                account(7) -> 0
                calibration(0, 10) -> 1
                """);
        edges.test("18 Recalls", "At most 8 recalls are in force", RICH + """
                5 x recall(2, 8, 9)
                account(7) -> 7
                recalled(7, 0) -> throws IndexOutOfBoundsException
                recall(1, 0, 0) -> 7
                account(7) -> 8
                keeps recall(0, 0, 0) -> throws IllegalStateException
                recalled(7, 0) -> 1
                recalled(8, 0) -> throws IndexOutOfBoundsException
                reach(2, 0, 0) -> 0
                lift(3) -> 7
                recall(0, 0, 9999) -> 7
                keeps recall(0, 0, 0) -> throws IllegalStateException
                undo() -> 7
                recall(0, 1, 2) -> 7
                """);
        edges.test("32 Recalls", "At most 8 recalls are in force", CALIBRATED + """
                6 x recall(2, 8, 9)
                type recall 1 7 7;recall 1 8 8
                read() -> 2
                account(7) -> 8
                type lift 0;recall 1 9 9;recall 1 9 9
                keeps read() -> throws UnsupportedOperationException
                refusal(true) -> 10
                refusal(false) -> 2
                type lift 0;recall 1 9 9
                read() -> 2
                recalled(7, 1) -> 9
                """);
        edges.test("19 Recalls", "they are numbered from 0 in the order in which they were told, and when one is lifted, the numbers"
                + " of the later ones decrease by 1", CALIBRATED + """
                recall(0, 10, 20) -> 0
                recall(1, 11, 21) -> 1
                recall(2, 12, 22) -> 2
                recall(0, 13, 23) -> 3
                recall(1, 14, 24) -> 4
                recall(2, 15, 25) -> 5
                recall(0, 16, 26) -> 6
                recall(1, 17, 27) -> 7
                lift(7) -> 7
                recalled(6, 1) -> 16
                recalled(7, 1) -> throws IndexOutOfBoundsException
                lift(0) -> 6
                recalled(0, 1) -> 11
                recalled(0, 0) -> 1
                recalled(5, 1) -> 16
                recalled(6, 1) -> throws IndexOutOfBoundsException
                lift(2) -> 5
                recalled(1, 1) -> 12
                recalled(1, 2) -> 22
                recalled(2, 1) -> 14
                recalled(2, 2) -> 24
                recalled(2, 0) -> 1
                recalled(4, 1) -> 16
                recall(2, 30, 30) -> 5
                recalled(5, 1) -> 30
                """);
        edges.test("18 Recalls", "A recall covers a calibration that was made on one of its days, both included", ITEMS + """
                pass(4) -> 4
                calibrate(1, 0, 0) -> 0
                pass(1) -> 5
                calibrate(1, 0, 0) -> 1
                pass(1) -> 6
                calibrate(1, 0, 0) -> 2
                pass(1) -> 7
                calibrate(1, 0, 0) -> 3
                pass(1) -> 8
                calibrate(1, 0, 0) -> 4
                recall(1, 5, 7) -> 0
                calibration(0, 10) -> 1
                calibration(1, 10) -> 0
                calibration(2, 10) -> 0
                calibration(3, 10) -> 0
                calibration(4, 10) -> 1
                recalled(0, 3) -> 3
                recall(1, 4, 4) -> 1
                recalled(1, 3) -> 1
                calibration(0, 10) -> 0
                recall(1, 9, 9999) -> 2
                recalled(2, 3) -> 0
                account(2) -> 1
                """);
        edges.test("18 Recalls", "if it is one of its item, or if its item is a primary standard with which it was made", CALIBRATED + """
                addItem(0, 0, 9, 0) -> 3
                calibrate(2, 3, 0) -> 2
                recall(3, 0, 0) -> 0
                recalled(0, 3) -> 1
                calibration(0, 10) -> 1
                calibration(1, 10) -> 1
                calibration(2, 10) -> 0
                recall(1, 0, 0) -> 1
                recalled(1, 3) -> 1
                cause(1) -> 0
                recall(2, 0, 0) -> 2
                recalled(2, 3) -> 2
                """);
        edges.test("18 Recalls", "A calibration is doubtful if a recall in force covers it, or if its source is doubtful; otherwise it is good",
                ITEMS + """
                addItem(1, 0, 90, 0) -> 3
                calibrate(1, 0, 0) -> 0
                calibrate(3, 1, 0) -> 1
                calibrate(2, 3, 0) -> 2
                calibrate(2, 0, 0) -> 3
                account(2) -> 4
                recall(1, 0, 0) -> 0
                account(2) -> 1
                calibration(2, 10) -> 0
                calibration(3, 10) -> 1
                recall(3, 0, 0) -> 1
                account(2) -> 1
                lift(0) -> 1
                calibration(0, 10) -> 1
                calibration(1, 10) -> 0
                calibration(2, 10) -> 0
                lift(0) -> 0
                account(2) -> 4
                """);
        edges.test("4 Recalls", "The current calibration of an item is the latest one of its calibrations that are good", ITEMS + """
                item(2, 7) -> -1
                calibrate(2, 0, 1) -> 0
                item(2, 7) -> 0
                calibrate(2, 0, 2) -> 1
                item(2, 7) -> 1
                calibrate(1, 0, 2) -> 2
                pass(1) -> 1
                calibrate(2, 0, 3) -> 3
                item(2, 7) -> 3
                recall(2, 1, 1) -> 0
                item(2, 7) -> 1
                recall(2, 0, 0) -> 1
                item(2, 7) -> -1
                item(1, 7) -> 2
                lift(0) -> 1
                item(2, 7) -> 3
                """);
    }

    private void reaches() {
        edges.test("13 Intervals", "The interval of a calibration is found by the rule of its item, with the tolerance, the drift, the rule"
                + " and the base that this item has when it is asked for", CALIBRATED + """
                calibration(1, 7) -> 100
                set(2, 3, 7) -> 100
                calibration(1, 7) -> 7
                set(1, 3, 50) -> 100
                set(1, 2, 1) -> 0
                calibration(1, 7) -> 7
                set(2, 2, 1) -> 0
                calibration(1, 7) -> 999
                set(2, 1, 99) -> 4
                calibration(1, 7) -> 85
                set(2, 0, 6) -> 90
                calibration(1, 7) -> 1
                set(2, 2, 3) -> 1
                calibration(1, 7) -> 14
                set(2, 0, 4) -> 6
                calibration(1, 7) -> 3
                """);
        edges.test("13 Intervals", "The need of a calibration is its offset without its sign plus twice its uncertainty", ITEMS + """
                calibrate(2, 0, 7) -> 0
                calibrate(2, 0, -7) -> 1
                part(0, 1) -> 1
                calibrate(2, 0, -5) -> 2
                calibrate(2, 0, 0) -> 3
                set(2, 0, 9) -> 90
                calibration(0, 9) -> 1
                calibration(1, 9) -> 1
                calibration(2, 9) -> 1
                set(2, 0, 8) -> 9
                calibration(0, 9) -> 0
                calibration(1, 9) -> 0
                calibration(2, 9) -> 0
                set(2, 0, 2) -> 8
                calibration(3, 9) -> 1
                set(2, 0, 1) -> 2
                calibration(3, 9) -> 0
                """);
        edges.test("13 Intervals", "It is in tolerance if its need is at most the tolerance", ITEMS + """
                calibrate(2, 0, 997) -> 0
                calibrate(2, 0, 998) -> 1
                calibrate(2, 0, -999) -> 2
                set(2, 0, 999) -> 90
                calibration(0, 9) -> 1
                calibration(1, 9) -> 0
                calibration(2, 9) -> 0
                """);
        String seven = ITEMS + """
                calibrate(2, 0, 7) -> 0
                set(2, 2, 1) -> 0
                """;
        edges.test("13 Intervals", "With a rate r, the reach of a calibration is the greatest number n from 0 to 999", seven + """
                set(2, 1, 10) -> 4
                set(2, 0, 9) -> 90
                calibration(0, 7) -> 0
                set(2, 0, 10) -> 9
                calibration(0, 7) -> 10
                set(2, 0, 11) -> 10
                calibration(0, 7) -> 20
                set(2, 0, 108) -> 11
                calibration(0, 7) -> 990
                set(2, 0, 109) -> 108
                calibration(0, 7) -> 999
                set(2, 0, 999) -> 109
                calibration(0, 7) -> 999
                set(2, 1, 99) -> 10
                calibration(0, 7) -> 999
                set(2, 0, 998) -> 999
                calibration(0, 7) -> 998
                """);
        edges.test("13 Intervals", "divided by 100 and rounded up, is at most the tolerance, where r times n alone is divided", seven + """
                set(2, 0, 10) -> 90
                set(2, 1, 99) -> 4
                calibration(0, 7) -> 1
                set(2, 1, 50) -> 99
                calibration(0, 7) -> 2
                set(2, 1, 51) -> 50
                calibration(0, 7) -> 1
                set(2, 1, 3) -> 51
                calibration(0, 7) -> 33
                set(2, 1, 1) -> 3
                calibration(0, 7) -> 100
                """);
        edges.test("13 Intervals", "it is 0 if there is no such number", seven + """
                set(2, 0, 9) -> 90
                calibration(0, 7) -> 0
                set(2, 1, 0) -> 4
                calibration(0, 7) -> 999
                set(2, 0, 8) -> 9
                calibration(0, 7) -> 0
                calibration(0, 8) -> 0
                set(2, 1, 4) -> 0
                calibration(0, 7) -> 0
                set(2, 0, 1) -> 8
                calibration(0, 7) -> 0
                """);
        edges.test("4 Intervals", "A calibration is due on its day plus its interval, and overdue if the present day is greater than that",
                CALIBRATED + """
                pass(3) -> 3
                calibrate(2, 0, 3) -> 2
                set(2, 3, 1) -> 100
                item(2, 8) -> 4
                item(2, 9) -> 1
                pass(1) -> 4
                item(2, 9) -> 1
                overdueWithin(0) -> 0
                pass(1) -> 5
                item(2, 9) -> 2
                overdueWithin(0) -> 1
                calibrate(2, 0, 3) -> 3
                set(2, 0, 4) -> 90
                set(2, 2, 1) -> 0
                item(2, 8) -> 5
                item(2, 9) -> 1
                pass(1) -> 6
                item(2, 9) -> 2
                """);
    }

    private void rules() {
        edges.test("13 Intervals", "Rule 0: the interval is the base", CALIBRATED + """
                set(2, 3, 1) -> 100
                calibration(1, 7) -> 1
                set(2, 3, 999) -> 1
                calibration(1, 7) -> 999
                set(2, 0, 1) -> 90
                set(2, 1, 99) -> 4
                calibration(1, 7) -> 999
                """);
        edges.test("13 Intervals", "Rule 1: it is the reach with the drift as the rate", CALIBRATED + """
                set(2, 2, 1) -> 0
                set(2, 0, 6) -> 90
                calibration(1, 7) -> 25
                set(2, 1, 0) -> 4
                calibration(1, 7) -> 999
                set(2, 1, 99) -> 0
                calibration(1, 7) -> 1
                calibrate(2, 0, -3) -> 2
                calibration(2, 7) -> 1
                """);
        edges.test("13 Intervals", "the difference of both offsets without its sign, times 100, divided by the number of days between"
                + " both, or by 1 on the same day, and rounded up", ITEMS + """
                set(2, 2, 2) -> 0
                calibrate(2, 0, 0) -> 0
                calibrate(2, 0, 1) -> 1
                calibration(1, 7) -> 87
                calibrate(2, 0, 1) -> 2
                calibration(2, 7) -> 999
                pass(1) -> 1
                calibrate(2, 0, 3) -> 3
                calibration(3, 7) -> 42
                pass(3) -> 4
                calibrate(2, 0, 2) -> 4
                calibration(4, 7) -> 252
                pass(100) -> 104
                calibrate(2, 0, 3) -> 5
                set(2, 0, 6) -> 90
                calibration(5, 7) -> 100
                pass(101) -> 205
                calibrate(2, 0, 4) -> 6
                set(2, 0, 7) -> 6
                calibration(6, 7) -> 100
                set(2, 0, 999) -> 7
                calibrate(2, 0, -999) -> 7
                pass(999) -> 1204
                calibrate(2, 0, 500) -> 8
                calibration(8, 7) -> 329
                calibrate(2, 0, -997) -> 9
                calibration(9, 7) -> 0
                calibrate(2, 0, 2) -> 10
                calibration(10, 7) -> 0
                pass(999) -> 2203
                calibrate(2, 0, 999) -> 11
                calibration(11, 7) -> 0
                pass(999) -> 3202
                calibrate(2, 0, -997) -> 12
                calibration(12, 7) -> 0
                calibrate(2, 0, -996) -> 13
                calibration(13, 7) -> 1
                calibrate(2, 0, -996) -> 14
                calibration(14, 7) -> 999
                """);
        edges.test("13 Intervals", "if there is no such calibration, it is found as by rule 1", ITEMS + """
                set(2, 2, 2) -> 0
                set(2, 0, 6) -> 90
                calibrate(1, 0, 9) -> 0
                calibrate(2, 0, 3) -> 1
                calibration(1, 7) -> 25
                pass(1) -> 1
                calibrate(2, 0, 4) -> 2
                calibration(2, 7) -> 0
                calibrate(2, 0, 3) -> 3
                calibration(3, 7) -> 1
                calibration(1, 7) -> 25
                recall(2, 0, 0) -> 0
                set(2, 1, 5) -> 4
                calibration(1, 7) -> 20
                set(2, 0, 7) -> 6
                calibration(2, 7) -> 20
                calibration(3, 7) -> 2
                """);
        edges.test("13 Intervals", "it is the reach with a rate that is found with the latest good calibration of the item before this one",
                ITEMS + """
                set(2, 2, 2) -> 0
                calibrate(2, 0, 0) -> 0
                pass(10) -> 10
                calibrate(2, 0, 50) -> 1
                calibrate(1, 0, 7) -> 2
                pass(10) -> 20
                calibrate(2, 0, 60) -> 3
                calibration(3, 7) -> 28
                recall(2, 10, 10) -> 0
                calibration(3, 7) -> 9
                calibration(1, 7) -> 7
                recall(2, 20, 20) -> 1
                calibration(3, 7) -> 9
                lift(0) -> 1
                calibration(3, 7) -> 28
                recall(2, 0, 10) -> 1
                calibration(3, 7) -> 700
                """);
        edges.test("13 Intervals", "it is doubled, but to at most 999", ITEMS + """
                set(2, 2, 3) -> 0
                calibrate(2, 0, 0) -> 0
                calibration(0, 7) -> 200
                set(2, 3, 1) -> 100
                calibration(0, 7) -> 2
                set(2, 3, 499) -> 1
                calibration(0, 7) -> 998
                set(2, 3, 500) -> 499
                calibration(0, 7) -> 999
                set(2, 3, 999) -> 500
                calibration(0, 7) -> 999
                calibrate(2, 0, 0) -> 1
                calibration(1, 7) -> 999
                """);
        edges.test("13 Intervals", "otherwise halved, rounded down, but to at least 1", ITEMS + """
                set(2, 2, 3) -> 0
                set(2, 0, 1) -> 90
                calibrate(2, 0, 0) -> 0
                set(2, 3, 1) -> 100
                calibration(0, 7) -> 1
                set(2, 3, 2) -> 1
                calibration(0, 7) -> 1
                set(2, 3, 3) -> 2
                calibration(0, 7) -> 1
                set(2, 3, 4) -> 3
                calibration(0, 7) -> 2
                set(2, 3, 5) -> 4
                calibration(0, 7) -> 2
                set(2, 3, 999) -> 5
                calibration(0, 7) -> 499
                set(2, 0, 2) -> 1
                calibration(0, 7) -> 999
                """);
        edges.test("13 Intervals", "for each good calibration of the item before this one, in their order, and then for this one", ITEMS + """
                set(2, 2, 3) -> 0
                set(2, 0, 5) -> 90
                set(2, 3, 999) -> 100
                calibrate(2, 0, 8) -> 0
                calibration(0, 7) -> 499
                calibrate(1, 0, 8) -> 1
                calibrate(2, 0, 0) -> 2
                calibration(2, 7) -> 998
                pass(1) -> 1
                calibrate(2, 0, 8) -> 3
                calibration(3, 7) -> 499
                calibrate(2, 0, 0) -> 4
                calibration(0, 7) -> 499
                set(2, 3, 1) -> 999
                calibration(0, 7) -> 1
                calibration(2, 7) -> 2
                calibration(3, 7) -> 1
                calibration(4, 7) -> 2
                set(2, 3, 8) -> 1
                recall(2, 1, 1) -> 0
                calibration(2, 7) -> 8
                calibration(3, 7) -> 4
                calibration(4, 7) -> 16
                """);
    }

    private void measurements() {
        edges.test("22 Measurements", "At most 40 measurements are kept, numbered from 0", CALIBRATED + """
                measure(2, 5, 6) -> 0
                38 x measure(2, 0, 0)
                measurement(39, 0) -> throws IndexOutOfBoundsException
                measure(2, 7, 8) -> 39
                account(3) -> 40
                keeps measure(2, 0, 0) -> throws UnsupportedOperationException
                refusal(true) -> 7
                refusal(false) -> -1
                measurement(0, 3) -> 5
                measurement(39, 3) -> 7
                measurement(39, 4) -> 8
                measurement(40, 0) -> throws IndexOutOfBoundsException
                undo() -> 7
                type measure 2 9 9
                read() -> 1
                measurement(39, 3) -> 9
                type measure 2 9 9
                keeps read() -> throws UnsupportedOperationException
                refusal(true) -> 7
                """);
        edges.test("22 Measurements", "it has a value from -9999 to 9999 and a limit from 0 to 9999", RICH + """
                keeps measure(2, -10000, 0) -> throws IllegalArgumentException
                keeps measure(2, 10000, 0) -> throws IllegalArgumentException
                keeps measure(2, 0, -1) -> throws IllegalArgumentException
                keeps measure(2, 0, 10000) -> throws IllegalArgumentException
                measure(2, -9999, 0) -> 1
                measure(2, 9999, 9999) -> 2
                measure(2, -9999, 9999) -> 3
                measurement(1, 3) -> -9999
                measurement(1, 4) -> 0
                measurement(1, 6) -> 0
                measurement(2, 3) -> 9999
                measurement(2, 4) -> 9999
                measurement(2, 6) -> 2
                measurement(3, 6) -> 1
                """);
        edges.test("22 Measurements", "A measurement is made with an instrument on the present day, with its current calibration", CALIBRATED + """
                keeps measure(0, 0, 0) -> throws UnsupportedOperationException
                keeps measure(1, 0, 0) -> throws UnsupportedOperationException
                refusal(true) -> 6
                measure(2, 0, 0) -> 0
                measurement(0, 1) -> 1
                measurement(0, 2) -> 0
                pass(7) -> 7
                calibrate(2, 0, 5) -> 2
                measure(2, 0, 0) -> 1
                measurement(1, 1) -> 2
                measurement(1, 2) -> 7
                recall(2, 7, 7) -> 0
                measure(2, 0, 0) -> 2
                measurement(2, 1) -> 1
                measurement(1, 1) -> 2
                """);
        edges.test("22 Measurements", "The allowance by a calibration is twice the uncertainty of that plus the drift of the instrument times"
                + " the number of days since it was made, divided by 100 and rounded up, where the product alone is divided", CALIBRATED + """
                measure(2, 0, 0) -> 0
                measurement(0, 5) -> 2
                pass(1) -> 1
                measure(2, 0, 0) -> 1
                measurement(1, 5) -> 3
                pass(24) -> 25
                measure(2, 0, 0) -> 2
                measurement(2, 5) -> 3
                pass(1) -> 26
                measure(2, 0, 0) -> 3
                measurement(3, 5) -> 4
                set(2, 1, 0) -> 4
                measure(2, 0, 0) -> 4
                measurement(4, 5) -> 2
                set(2, 1, 99) -> 0
                measure(2, 0, 0) -> 5
                measurement(5, 5) -> 28
                pass(74) -> 100
                measure(2, 0, 0) -> 6
                measurement(6, 5) -> 101
                set(2, 3, 999) -> 100
                pass(899) -> 999
                measure(2, 0, 0) -> 7
                measurement(7, 5) -> 992
                """);
        edges.test("22 Measurements", "by a calibration is twice the uncertainty of that plus the drift of the instrument times the number of"
                + " days since it was made", ITEMS + """
                set(1, 1, 99) -> 10
                pass(30) -> 30
                part(0, 3) -> 9
                calibrate(2, 0, 0) -> 0
                measure(2, 0, 0) -> 0
                measurement(0, 5) -> 8
                pass(25) -> 55
                measure(2, 10, 19) -> 1
                measurement(1, 5) -> 9
                measurement(1, 6) -> 2
                again(1) -> 2
                pass(1) -> 56
                measure(2, 10, 19) -> 2
                measurement(2, 5) -> 10
                measurement(2, 6) -> 1
                again(2) -> 1
                calibrate(2, 0, 10) -> 1
                measure(2, 10, 2) -> 3
                measurement(3, 5) -> 2
                again(2) -> 2
                """);
        edges.test("22 Measurements", "The distance is that of the value and the offset of the calibration, without sign", CALIBRATED + """
                measure(2, 3, 2) -> 0
                measurement(0, 6) -> 2
                measure(2, 3, 1) -> 1
                measurement(1, 6) -> 1
                measure(2, 4, 3) -> 2
                measurement(2, 6) -> 2
                measure(2, 2, 3) -> 3
                measurement(3, 6) -> 2
                measure(2, 5, 3) -> 4
                measurement(4, 6) -> 1
                measure(2, 1, 3) -> 5
                measurement(5, 6) -> 1
                calibrate(2, 0, -999) -> 2
                measure(2, -999, 2) -> 6
                measurement(6, 6) -> 2
                measure(2, 999, 2000) -> 7
                measurement(7, 6) -> 2
                measure(2, 999, 1999) -> 8
                measurement(8, 6) -> 1
                measure(2, 9999, 9999) -> 9
                measurement(9, 6) -> 0
                """);
    }

    private void verdicts() {
        edges.test("22 Measurements", "The verdict is 2 if the distance plus the allowance is at most the limit, 0 if the distance minus the"
                + " allowance is greater than the limit, and otherwise 1", CALIBRATED + """
                measure(2, 13, 13) -> 0
                measurement(0, 6) -> 2
                measure(2, 13, 12) -> 1
                measurement(1, 6) -> 2
                measure(2, 13, 11) -> 2
                measurement(2, 6) -> 1
                measure(2, 13, 8) -> 3
                measurement(3, 6) -> 1
                measure(2, 13, 7) -> 4
                measurement(4, 6) -> 0
                measure(2, 3, 0) -> 5
                measurement(5, 6) -> 1
                measure(2, 5, 0) -> 6
                measurement(6, 6) -> 1
                measure(2, 6, 0) -> 7
                measurement(7, 6) -> 0
                again(1) -> 2
                again(2) -> 1
                again(3) -> 1
                again(4) -> 0
                """);
        edges.test("23 Measurements", "A measurement keeps its allowance and its verdict; it is doubtful if its calibration is", CALIBRATED + """
                measure(2, 13, 12) -> 0
                set(2, 1, 99) -> 4
                pass(50) -> 50
                calibrate(2, 0, 500) -> 2
                measurement(0, 5) -> 2
                measurement(0, 6) -> 2
                measurement(0, 7) -> 0
                recall(0, 50, 50) -> 0
                measurement(0, 7) -> 0
                recall(0, 0, 0) -> 1
                measurement(0, 7) -> 1
                measurement(0, 1) -> 1
                measurement(0, 5) -> 2
                measurement(0, 6) -> 2
                account(4) -> 1
                lift(1) -> 1
                measurement(0, 7) -> 0
                account(4) -> 0
                """);
        edges.test("24 Measurements", "It is judged again by the latest good calibration of its instrument that was made on its day or before",
                ITEMS + """
                addItem(2, 0, 90, 4) -> 3
                calibrate(2, 0, 0) -> 0
                pass(5) -> 5
                calibrate(2, 0, 20) -> 1
                measure(2, 20, 3) -> 0
                again(0) -> 2
                calibrate(3, 0, 999) -> 2
                again(0) -> 2
                calibrate(2, 0, 22) -> 3
                again(0) -> 1
                calibrate(2, 0, 900) -> 4
                again(0) -> 0
                undo() -> 7
                pass(1) -> 6
                calibrate(2, 0, 20) -> 4
                again(0) -> 1
                recall(2, 5, 5) -> 0
                again(0) -> 0
                recall(2, 0, 0) -> 1
                again(0) -> throws NoSuchElementException
                item(2, 7) -> 4
                lift(0) -> 1
                again(0) -> 1
                """);
        edges.test("24 Measurements", "with the drift that the instrument has now, by the days between that calibration and the measurement",
                CALIBRATED + """
                pass(50) -> 50
                measure(2, 13, 14) -> 0
                measurement(0, 5) -> 4
                again(0) -> 2
                pass(100) -> 150
                again(0) -> 2
                set(2, 1, 5) -> 4
                again(0) -> 1
                set(2, 1, 99) -> 5
                again(0) -> 1
                set(2, 1, 0) -> 99
                again(0) -> 2
                keeps again(0) -> 2
                measurement(0, 5) -> 4
                """);
    }

    private void certificates() {
        edges.test("25 Certificates", "At most 20 certificates are kept, numbered from 0", CALIBRATED + """
                issue(1) -> 0
                18 x issue(2)
                certificate(19, 0) -> throws IndexOutOfBoundsException
                issue(2) -> 19
                account(5) -> 20
                keeps issue(2) -> throws UnsupportedOperationException
                refusal(true) -> 9
                refusal(false) -> -1
                certificate(0, 0) -> 0
                certificate(19, 0) -> 1
                certificate(20, 0) -> throws IndexOutOfBoundsException
                write(19) -> 20
                text -> N19 I2 D0 O3 U1 S1<0
                undo() -> 7
                type cert 1
                read() -> 1
                certificate(19, 0) -> 0
                type cert 1
                keeps read() -> throws UnsupportedOperationException
                refusal(true) -> 9
                """);
        edges.test("26 Certificates", "A certificate belongs to a calibration", CALIBRATED + """
                issue(2) -> 0
                calibrate(2, 0, 9) -> 2
                issue(2) -> 1
                certificate(0, 0) -> 1
                certificate(1, 0) -> 2
                recall(2, 0, 0) -> 0
                certificate(0, 0) -> 1
                """);
        edges.test("26 Certificates", "Its state is 2 if that is doubtful, otherwise 1 if that is overdue, and otherwise 0", CALIBRATED + """
                issue(2) -> 0
                certificate(0, 2) -> 0
                pass(100) -> 100
                certificate(0, 2) -> 0
                recall(0, 0, 0) -> 0
                certificate(0, 2) -> 2
                lift(0) -> 0
                pass(1) -> 101
                certificate(0, 2) -> 1
                account(6) -> 0
                calibrate(2, 0, 3) -> 2
                certificate(0, 2) -> 1
                recall(0, 0, 0) -> 0
                certificate(0, 2) -> 2
                set(2, 3, 101) -> 100
                lift(0) -> 0
                certificate(0, 2) -> 0
                account(6) -> 1
                """);
        edges.test("27 Certificates", "with < between two of them; all numbers are decimal, with a minus sign if they are below 0", ITEMS + """
                addItem(1, 0, 999, 0) -> 3
                addItem(0, 0, 999, 0) -> 4
                6 x addItem(1, 1, 5, 5)
                addItem(1, 0, 999, 0) -> 11
                addItem(2, 0, 999, 0) -> 12
                calibrate(1, 0, 0) -> 0
                issue(1) -> 0
                write(0) -> 17
                text -> N0 I1 D0 O0 U1 S0
                10 x pass(999)
                pass(9) -> 9999
                set(4, 3, 100) -> 1
                calibrate(11, 4, 0) -> 1
                calibrate(3, 11, 0) -> 2
                calibrate(12, 3, -1) -> 3
                9 x issue(11)
                issue(12) -> 10
                write(10) -> 30
                text -> N10 I12 D9999 O-1 U100 S3<11<4
                calibrate(12, 4, -799) -> 4
                issue(12) -> 11
                write(11) -> 27
                text -> N11 I12 D9999 O-799 U100 S4
                calibrate(12, 4, 799) -> 5
                issue(12) -> 12
                write(12) -> 26
                text -> N12 I12 D9999 O799 U100 S4
                """);
        edges.test("27 Certificates", "An example is N0 I3 D5 O-7 U4 S1<0", """
                addItem(0, 0, 9, 0) -> 0
                addItem(1, 0, 90, 0) -> 1
                addItem(1, 0, 90, 0) -> 2
                addItem(2, 0, 90, 0) -> 3
                calibrate(1, 0, 2) -> 0
                pass(5) -> 5
                part(0, 3) -> 9
                calibrate(3, 1, -7) -> 1
                issue(3) -> 0
                write(0) -> 20
                text -> N0 I3 D5 O-7 U4 S1<0
                """);
    }

    private void refusedCalibrations() {
        String wide = """
                addItem(0, 0, 9, 0) -> 0
                addItem(1, 0, 90, 0) -> 1
                addItem(2, 0, 90, 0) -> 2
                addItem(0, 1, 9, 0) -> 3
                addItem(1, 1, 90, 0) -> 4
                addItem(2, 1, 90, 0) -> 5
                """;
        edges.test("11 Refusals", "is refused for the first of these reasons that applies to it", wide + """
                wouldRefuse(0, 4) -> 1
                wouldRefuse(3, 5) -> 1
                wouldRefuse(1, 5) -> 1
                wouldRefuse(1, 1) -> 1
                wouldRefuse(2, 4) -> 2
                wouldRefuse(2, 1) -> 3
                59 x calibrate(1, 0, 0)
                wouldRefuse(2, 1) -> 0
                calibrate(2, 0, 0) -> 59
                wouldRefuse(0, 0) -> 1
                wouldRefuse(2, 3) -> 2
                wouldRefuse(2, 1) -> 5
                pass(100) -> 100
                wouldRefuse(2, 1) -> 5
                pass(1) -> 101
                wouldRefuse(2, 1) -> 4
                wouldRefuse(5, 4) -> 3
                recall(1, 0, 0) -> 0
                wouldRefuse(2, 1) -> 3
                wouldRefuse(2, 0) -> 5
                """);
        edges.test("10 Refusals", "1, the item is a primary standard, the standard is an instrument, or both are the same", wide + """
                part(0, 2) -> 4
                keeps calibrate(0, 0, 0) -> throws UnsupportedOperationException
                refusal(true) -> 1
                calibrate(1, 0, 0) -> 0
                keeps calibrate(0, 1, 0) -> throws UnsupportedOperationException
                refusal(true) -> 1
                calibrate(2, 0, 0) -> 1
                keeps calibrate(1, 2, 0) -> throws UnsupportedOperationException
                refusal(true) -> 1
                keeps calibrate(1, 1, 0) -> throws UnsupportedOperationException
                refusal(true) -> 1
                keeps calibrate(2, 2, 0) -> throws UnsupportedOperationException
                refusal(true) -> 1
                calibrate(2, 1, 0) -> 2
                """);
        edges.test("10 Refusals", "2, their quantities are different", wide + """
                keeps calibrate(1, 3, 0) -> throws UnsupportedOperationException
                refusal(true) -> 2
                calibrate(4, 3, 0) -> 0
                keeps calibrate(2, 4, 0) -> throws UnsupportedOperationException
                refusal(true) -> 2
                calibrate(5, 4, 0) -> 1
                """);
        edges.test("10 Refusals", "3, the standard is no primary one and has no current calibration", wide + """
                keeps calibrate(2, 1, 0) -> throws UnsupportedOperationException
                refusal(true) -> 3
                calibrate(2, 0, 0) -> 0
                keeps calibrate(2, 1, 0) -> throws UnsupportedOperationException
                calibrate(1, 0, 0) -> 1
                calibrate(2, 1, 0) -> 2
                recall(1, 0, 0) -> 0
                keeps calibrate(2, 1, 0) -> throws UnsupportedOperationException
                refusal(true) -> 3
                recall(0, 0, 9999) -> 1
                calibrate(2, 0, 0) -> 3
                """);
        edges.test("10 Refusals", "the standard is no primary one and has no current calibration; 4, that is overdue", wide + """
                calibrate(1, 0, 0) -> 0
                set(1, 3, 1) -> 100
                pass(1) -> 1
                calibrate(2, 1, 0) -> 1
                pass(1) -> 2
                keeps calibrate(2, 1, 0) -> throws UnsupportedOperationException
                refusal(true) -> 4
                set(2, 3, 1) -> 100
                calibrate(2, 0, 0) -> 2
                pass(7) -> 9
                calibrate(2, 0, 0) -> 3
                set(1, 3, 8) -> 1
                keeps calibrate(2, 1, 0) -> throws UnsupportedOperationException
                set(1, 3, 9) -> 8
                calibrate(2, 1, 0) -> 4
                """);
        edges.test("10 Refusals", "5, there are 60 calibrations", wide + """
                58 x calibrate(1, 0, 0)
                calibrate(2, 1, 0) -> 58
                calibrate(4, 3, 0) -> 59
                part(0, 2) -> 4
                keeps calibrate(5, 3, 0) -> throws UnsupportedOperationException
                refusal(true) -> 5
                """);
    }

    private void refusedOthers() {
        edges.test("22 Refusals", "6, the item is no instrument", ITEMS + """
                keeps measure(1, 0, 0) -> throws UnsupportedOperationException
                refusal(true) -> 6
                keeps measure(0, 0, 0) -> throws UnsupportedOperationException
                refusal(true) -> 6
                calibrate(1, 0, 0) -> 0
                keeps measure(1, 0, 0) -> throws UnsupportedOperationException
                refusal(true) -> 6
                keeps measure(2, 0, 0) -> throws UnsupportedOperationException
                refusal(true) -> 3
                calibrate(2, 0, 0) -> 1
                measure(2, 0, 0) -> 0
                """);
        edges.test("22 Refusals", "3, it has no current calibration; 4, that is overdue; 7", CALIBRATED + """
                pass(100) -> 100
                measure(2, 0, 0) -> 0
                pass(1) -> 101
                keeps measure(2, 0, 0) -> throws UnsupportedOperationException
                refusal(true) -> 4
                calibrate(2, 0, 0) -> 2
                measure(2, 0, 0) -> 1
                recall(0, 0, 9999) -> 0
                keeps measure(2, 0, 0) -> throws UnsupportedOperationException
                refusal(true) -> 3
                """);
        edges.test("22 Refusals", "7, there are 40 measurements", CALIBRATED + """
                39 x measure(2, 0, 0)
                measure(2, 0, 0) -> 39
                measure(1, 0, 0) -> throws UnsupportedOperationException
                refusal(true) -> 6
                measure(2, 0, 0) -> throws UnsupportedOperationException
                refusal(true) -> 7
                pass(101) -> 101
                measure(2, 0, 0) -> throws UnsupportedOperationException
                refusal(true) -> 4
                recall(0, 0, 0) -> 0
                measure(2, 0, 0) -> throws UnsupportedOperationException
                refusal(true) -> 3
                account(3) -> 40
                """);
        edges.test("25 Refusals", "Of a certificate: 3, the item has no current calibration", ITEMS + """
                keeps issue(0) -> throws UnsupportedOperationException
                refusal(true) -> 3
                keeps issue(1) -> throws UnsupportedOperationException
                calibrate(1, 0, 0) -> 0
                issue(1) -> 0
                keeps issue(0) -> throws UnsupportedOperationException
                recall(1, 0, 0) -> 0
                keeps issue(1) -> throws UnsupportedOperationException
                refusal(true) -> 3
                """);
        edges.test("25 Refusals", "4, that is overdue; 8, that is not in tolerance", CALIBRATED + """
                set(2, 0, 5) -> 90
                pass(100) -> 100
                issue(2) -> 0
                set(2, 0, 4) -> 5
                keeps issue(2) -> throws UnsupportedOperationException
                refusal(true) -> 8
                pass(1) -> 101
                keeps issue(2) -> throws UnsupportedOperationException
                refusal(true) -> 4
                set(2, 0, 5) -> 4
                keeps issue(2) -> throws UnsupportedOperationException
                refusal(true) -> 4
                set(2, 3, 101) -> 100
                issue(2) -> 1
                """);
        edges.test("25 Refusals", "9, there are 20 certificates", CALIBRATED + """
                19 x issue(1)
                issue(2) -> 19
                keeps issue(1) -> throws UnsupportedOperationException
                refusal(true) -> 9
                set(1, 0, 1) -> 90
                issue(1) -> throws UnsupportedOperationException
                refusal(true) -> 8
                pass(101) -> 101
                issue(1) -> throws UnsupportedOperationException
                refusal(true) -> 4
                issue(0) -> throws UnsupportedOperationException
                refusal(true) -> 3
                """);
    }

    private void costs() {
        edges.test("10 Costs", "A calibration costs 20 and 3 more for each part in the list", ITEMS + """
                item(1, 10) -> 0
                account(8) -> 0
                calibrate(1, 0, 0) -> 0
                item(1, 10) -> 20
                part(0, 0) -> 0
                calibrate(1, 0, 0) -> 1
                item(1, 10) -> 43
                6 x part(3, 999)
                calibrate(1, 0, 0) -> 2
                item(1, 10) -> 81
                part(0, 1) -> 1
                clearParts() -> 1
                calibrate(1, 0, 0) -> 3
                item(1, 10) -> 101
                part(0, 1) -> 1
                calibrate(1, 1, 0) -> throws UnsupportedOperationException
                item(1, 10) -> 101
                account(8) -> 101
                """);
        edges.test("22 Costs", "a measurement costs 1 and a certificate 5", CALIBRATED + """
                measure(2, 0, 0) -> 0
                item(2, 10) -> 21
                part(0, 1) -> 1
                measure(2, 0, 0) -> 1
                item(2, 10) -> 22
                issue(2) -> 0
                item(2, 10) -> 27
                pass(101) -> 101
                measure(2, 0, 0) -> throws UnsupportedOperationException
                issue(2) -> throws UnsupportedOperationException
                item(2, 10) -> 27
                account(8) -> 47
                """);
        edges.test("4 Costs", "it belongs to the item that is calibrated, measured with or certified", CALIBRATED + """
                issue(1) -> 0
                measure(2, 0, 0) -> 0
                item(0, 10) -> 0
                item(1, 10) -> 25
                item(2, 10) -> 21
                type part 0 1;cal 2 1 0;measure 2 1 1;cert 2;cert 1
                read() -> 5
                item(1, 10) -> 30
                item(2, 10) -> 50
                account(8) -> 80
                undo() -> 7
                item(2, 10) -> 21
                account(8) -> 46
                """);
    }

    private void changes() {
        edges.test("37 History", "that return without an exception are changes, also if nothing is different then", """
                account(10) -> 0
                addItem(0, 0, 9, 0) -> 0
                account(10) -> 1
                set(0, 0, 9) -> 9
                account(10) -> 2
                pass(1) -> 1
                account(10) -> 3
                part(0, 0) -> 0
                account(10) -> 4
                clearParts() -> 1
                account(10) -> 5
                clearParts() -> 0
                account(10) -> 6
                recall(0, 9, 9) -> 0
                account(10) -> 7
                lift(0) -> 0
                account(10) -> 8
                undo() -> 7
                account(7) -> 1
                undo() -> 6
                account(7) -> 0
                undo() -> 5
                account(9) -> 0
                undo() -> 4
                account(9) -> 1
                """);
        edges.test("37 History", "calibrate, recall, lift, measure, issue and read that return without an exception are changes", ITEMS + """
                account(10) -> 3
                calibrate(2, 0, 0) -> 0
                account(10) -> 4
                measure(2, 0, 0) -> 0
                account(10) -> 5
                issue(2) -> 0
                account(10) -> 6
                type clearless
                read() -> throws IllegalArgumentException
                type lift 0
                read() -> throws UnsupportedOperationException
                account(10) -> 6
                type pass 1
                account(10) -> 6
                read() -> 1
                account(10) -> 7
                save() -> done
                write(0) -> 17
                again(0) -> 1
                account(10) -> 7
                undo() -> 6
                account(5) -> 1
                undo() -> 5
                account(5) -> 0
                undo() -> 4
                account(3) -> 0
                undo() -> 3
                account(1) -> 0
                account(0) -> 3
                """);
        edges.test("37 History", "a text is one change", ITEMS + """
                type pass 1;part 0 1;part 0 2;cal 1 0 5;recall 2 0 0
                read() -> 5
                account(10) -> 4
                undo() -> 3
                today() -> 0
                account(9) -> 0
                account(1) -> 0
                account(7) -> 0
                account(8) -> 0
                """);
        edges.test("37 History", "The latest 8 changes can be undone, the latest first; older ones are forgotten for good", """
                7 x pass(1)
                account(10) -> 7
                pass(1) -> 8
                account(10) -> 8
                pass(1) -> 9
                account(10) -> 8
                undo() -> 7
                today() -> 8
                6 x undo()
                today() -> 2
                undo() -> 0
                today() -> 1
                keeps undo() -> throws IllegalStateException
                today() -> 1
                """);
        edges.test("37 History", "older ones are forgotten for good", """
                30 x pass(1)
                8 x undo()
                today() -> 22
                keeps undo() -> throws IllegalStateException
                8 x pass(10)
                today() -> 102
                8 x undo()
                today() -> 22
                keeps undo() -> throws IllegalStateException
                pass(1) -> 23
                5 x pass(2)
                account(10) -> 6
                undo() -> 5
                3 x pass(3)
                account(10) -> 8
                pass(3) -> 43
                account(10) -> 8
                8 x undo()
                today() -> 23
                undo() -> throws IllegalStateException
                """);
        edges.test("37 History", "The latest 8 changes can be undone", """
                8 x clearParts()
                488 x pass(1)
                today() -> 488
                account(10) -> 8
                8 x undo()
                today() -> 480
                undo() -> throws IllegalStateException
                """);
    }

    private void snapshots() {
        edges.test("39 History", "A snapshot contains everything but itself, the input, the fault position, the refusal, what was written last"
                + " and the changes that can be undone", RICH + """
                set(1, 2, 3) -> 0
                set(2, 3, 999) -> 100
                lift(0) -> 1
                save() -> done
                set(1, 2, 0) -> 3
                set(2, 3, 1) -> 999
                set(2, 0, 1) -> 90
                set(2, 1, 99) -> 4
                recall(1, 0, 0) -> 1
                clearParts() -> 1
                part(1, 4) -> 6
                part(1, 5) -> 9
                pass(7) -> 12
                addItem(0, 1, 5, 5) -> 3
                calibrate(2, 0, 9) -> 2
                measure(2, 0, 0) -> 1
                issue(2) -> throws UnsupportedOperationException
                set(2, 0, 20) -> 1
                issue(2) -> 1
                write(1) -> 18
                text -> N1 I2 D12 O9 U4 S0
                type rt 0 1;part
                restore() -> done
                account(10) -> 0
                undo() -> throws IllegalStateException
                today() -> 5
                account(0) -> 3
                account(1) -> 2
                account(2) -> 2
                account(3) -> 1
                account(5) -> 1
                account(7) -> 1
                account(8) -> 46
                account(9) -> 1
                square(-1) -> 9
                item(1, 4) -> 3
                item(2, 5) -> 999
                item(2, 2) -> 90
                item(2, 3) -> 4
                recalled(0, 1) -> 9
                faultPosition() -> 2
                refusal(true) -> 8
                refusal(false) -> -1
                text -> N1 I2 D12 O9 U4 S0
                type  3 4
                read() -> 3
                today() -> 6
                square(2) -> 8
                restore() -> done
                account(9) -> 1
                today() -> 5
                """);
        edges.test("37 History", "undoing leaves these as they are, too", RICH + """
                pass(1) -> 6
                save() -> done
                pass(1) -> 7
                write(0) -> 19
                undo() -> 7
                undo() -> 6
                today() -> 5
                faultPosition() -> 2
                refusal(true) -> 1
                refusal(false) -> -1
                text -> N0 I2 D0 O3 U1 S1<0
                type rt 0 1
                read() -> 2
                today() -> 6
                undo() -> 6
                faultPosition() -> -1
                5 x undo()
                undo() -> 0
                restore() -> done
                today() -> 6
                account(9) -> 1
                """);
    }

    private void details() {
        edges.test("13 Details", "Calibrations are good or doubtful by the recalls that are in force when it is asked; also for the rules 2"
                + " and 3, for certificates and for measurements", ITEMS + """
                calibrate(2, 0, 0) -> 0
                measure(2, 5, 5) -> 0
                issue(2) -> 0
                pass(2) -> 2
                calibrate(2, 0, 1) -> 1
                set(2, 2, 2) -> 0
                calibration(1, 7) -> 174
                recall(2, 0, 0) -> 0
                calibration(1, 7) -> 999
                measurement(0, 7) -> 1
                certificate(0, 2) -> 2
                set(2, 2, 3) -> 2
                calibration(1, 7) -> 200
                lift(0) -> 0
                calibration(1, 7) -> 400
                measurement(0, 7) -> 0
                certificate(0, 2) -> 0
                set(2, 2, 2) -> 3
                calibration(1, 7) -> 174
                """);
        edges.test("18 Details", "A calibration that is made after a recall was told is covered by it in the same way", ITEMS + """
                recall(2, 3, 4) -> 0
                recall(0, 6, 6) -> 1
                pass(2) -> 2
                calibrate(2, 0, 0) -> 0
                calibration(0, 10) -> 1
                pass(1) -> 3
                calibrate(2, 0, 0) -> 1
                calibration(1, 10) -> 0
                cause(1) -> 1
                item(2, 7) -> 0
                pass(1) -> 4
                calibrate(2, 0, 0) -> 2
                calibration(2, 10) -> 0
                recalled(0, 3) -> 2
                pass(1) -> 5
                calibrate(2, 0, 0) -> 3
                calibration(3, 10) -> 1
                calibrate(1, 0, 0) -> 4
                pass(1) -> 6
                calibrate(2, 0, 0) -> 5
                calibration(5, 10) -> 0
                calibrate(2, 1, 0) -> 6
                calibration(6, 10) -> 1
                recalled(1, 3) -> 1
                """);
        edges.test("10 Details", "When a calibration is refused, the list of parts stays", CALIBRATED + """
                6 x part(0, 2)
                keeps calibrate(1, 1, 0) -> throws UnsupportedOperationException
                account(9) -> 6
                square(-1) -> 24
                type cal 1 0 0;cal 1 1 0
                keeps read() -> throws UnsupportedOperationException
                account(9) -> 6
                square(5) -> 4
                keeps calibrate(1, 0, 1000) -> throws IllegalArgumentException
                account(9) -> 6
                """);
        edges.test("4 Details", "A day on which an item is due can be greater than 9999", ITEMS + """
                set(1, 3, 999) -> 100
                10 x pass(999)
                calibrate(2, 0, 0) -> 0
                item(2, 8) -> 10090
                pass(9) -> 9999
                calibrate(1, 0, 0) -> 1
                item(1, 8) -> 10998
                calibration(1, 8) -> 10998
                item(1, 9) -> 1
                due(0) -> 2
                due(1) -> 1
                overdueWithin(91) -> 0
                overdueWithin(92) -> 1
                overdueWithin(999) -> 1
                overdueWithin(1000) -> 2
                overdueWithin(9999) -> 2
                """);
    }

    private void exceptions() {
        edges.test("39 Exceptions", "A call that throws an exception leaves everything unchanged, unless its description says otherwise", """
                keeps addItem(3, 0, 1, 0) -> throws IndexOutOfBoundsException
                keeps set(0, 0, 5) -> throws IndexOutOfBoundsException
                keeps square(0) -> throws NoSuchElementException
                keeps calibrate(0, 0, 0) -> throws IndexOutOfBoundsException
                keeps lift(0) -> throws IndexOutOfBoundsException
                keeps written(0) -> throws NoSuchElementException
                keeps due(0) -> throws NoSuchElementException
                keeps read() -> throws IllegalArgumentException
                keeps refusal(true) -> throws NoSuchElementException
                keeps goodShare() -> throws ArithmeticException
                keeps undo() -> throws IllegalStateException
                keeps restore() -> throws IllegalStateException
                """);
        edges.test("2 Exceptions", "If several exceptions are possible, the one that is listed first is thrown", """
                addItem(3, 4, 0, 100) -> throws IndexOutOfBoundsException
                addItem(0, 4, 0, 100) -> throws IndexOutOfBoundsException
                addItem(0, 3, 0, 100) -> throws IllegalArgumentException
                16 x addItem(0, 0, 1, 0)
                addItem(3, 0, 0, 0) -> throws IndexOutOfBoundsException
                addItem(0, 0, 0, 0) -> throws IllegalArgumentException
                addItem(0, 0, 1, 0) -> throws IllegalStateException
                set(16, 4, 0) -> throws IndexOutOfBoundsException
                item(16, 11) -> throws IndexOutOfBoundsException
                6 x part(0, 0)
                part(4, 1000) -> throws IndexOutOfBoundsException
                part(0, 1000) -> throws IllegalArgumentException
                part(0, 0) -> throws IllegalStateException
                """);
        edges.test("5 Exceptions", "If several exceptions are possible, the one that is listed first is thrown", """
                10 x pass(999)
                pass(1000) -> throws IllegalArgumentException
                pass(999) -> throws IllegalStateException
                """);
        edges.test("10 Exceptions", "If several exceptions are possible, the one that is listed first is thrown", CALIBRATED + """
                calibrate(3, 0, 1000) -> throws IndexOutOfBoundsException
                calibrate(0, 3, 1000) -> throws IndexOutOfBoundsException
                calibrate(0, 0, 1000) -> throws IllegalArgumentException
                calibrate(0, 0, 999) -> throws UnsupportedOperationException
                calibration(2, 13) -> throws IndexOutOfBoundsException
                chain(2, -1) -> throws IndexOutOfBoundsException
                8 x recall(2, 9, 9)
                recall(3, 1, 0) -> throws IndexOutOfBoundsException
                recall(2, 1, 0) -> throws IllegalArgumentException
                recall(2, 1, 1) -> throws IllegalStateException
                recalled(8, 4) -> throws IndexOutOfBoundsException
                reach(3, 1, 0) -> throws IndexOutOfBoundsException
                measure(3, 10000, -1) -> throws IndexOutOfBoundsException
                measure(1, 10000, 0) -> throws IllegalArgumentException
                measure(1, 0, -1) -> throws IllegalArgumentException
                measure(1, 0, 0) -> throws UnsupportedOperationException
                measurement(0, 8) -> throws IndexOutOfBoundsException
                certificate(0, 3) -> throws IndexOutOfBoundsException
                """);
    }
}
