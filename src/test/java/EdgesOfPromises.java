/** The boundary cases that stand in the promises themselves. */
final class EdgesOfPromises {
    private static final String ITEMS = Edges.ITEMS;
    private static final String CALIBRATED = Edges.CALIBRATED;
    private static final String RICH = Edges.RICH;
    /** A chain of four calibrations, of the items 1, 2, 3 and 2 again, on the days 0, 1, 2 and 3. */
    private static final String LONG = """
            addItem(0, 0, 9, 0) -> 0
            addItem(1, 0, 90, 10) -> 1
            addItem(1, 0, 90, 10) -> 2
            addItem(1, 0, 90, 10) -> 3
            set(0, 3, 3) -> 1
            part(0, 2) -> 4
            calibrate(1, 0, 0) -> 0
            pass(1) -> 1
            calibrate(2, 1, 0) -> 1
            pass(1) -> 2
            part(0, 1) -> 1
            calibrate(3, 2, 0) -> 2
            pass(1) -> 3
            calibrate(2, 3, 0) -> 3
            """;

    private final Edges edges;

    private EdgesOfPromises(Edges edges) {
        this.edges = edges;
    }

    static void run(Edges edges) {
        EdgesOfPromises promises = new EdgesOfPromises(edges);
        promises.newObjects();
        promises.items();
        promises.numbersOfItems();
        promises.daysAndParts();
        promises.calibrations();
        promises.bestStandards();
        promises.numbersOfCalibrations();
        promises.chains();
        promises.recalls();
        promises.reaches();
        promises.measurements();
        promises.certificates();
        promises.writing();
        promises.dueDays();
        promises.texts();
        promises.refusals();
        promises.accounts();
        promises.undoing();
        promises.snapshots();
    }

    private void newObjects() {
        edges.test("1", "Creates a registry without items", """
                account(0) -> 0
                account(1) -> 0
                account(2) -> 0
                account(3) -> 0
                account(4) -> 0
                account(5) -> 0
                account(6) -> 0
                account(7) -> 0
                account(8) -> 0
                account(9) -> 0
                account(10) -> 0
                today() -> 0
                faultPosition() -> -1
                square(-1) -> 0
                overdueWithin(9999) -> 0
                set(0, 0, 5) -> throws IndexOutOfBoundsException
                item(0, 0) -> throws IndexOutOfBoundsException
                calibrate(0, 0, 0) -> throws IndexOutOfBoundsException
                wouldRefuse(0, 0) -> throws IndexOutOfBoundsException
                best(0) -> throws IndexOutOfBoundsException
                calibration(0, 0) -> throws IndexOutOfBoundsException
                variance(0, true) -> throws IndexOutOfBoundsException
                alongChain(0) -> throws IndexOutOfBoundsException
                chain(0, 0) -> throws IndexOutOfBoundsException
                cause(0) -> throws IndexOutOfBoundsException
                recall(0, 0, 0) -> throws IndexOutOfBoundsException
                lift(0) -> throws IndexOutOfBoundsException
                recalled(0, 0) -> throws IndexOutOfBoundsException
                reach(0, 0, 0) -> throws IndexOutOfBoundsException
                measure(0, 0, 0) -> throws IndexOutOfBoundsException
                measurement(0, 0) -> throws IndexOutOfBoundsException
                again(0) -> throws IndexOutOfBoundsException
                issue(0) -> throws IndexOutOfBoundsException
                certificate(0, 0) -> throws IndexOutOfBoundsException
                write(0) -> throws IndexOutOfBoundsException
                square(0) -> throws NoSuchElementException
                written(0) -> throws NoSuchElementException
                due(0) -> throws NoSuchElementException
                refusal(true) -> throws NoSuchElementException
                refusal(false) -> throws NoSuchElementException
                goodShare() -> throws ArithmeticException
                undo() -> throws IllegalStateException
                restore() -> throws IllegalStateException
                addItem(0, 0, 1, 0) -> 0
                item(0, 0) -> 0
                """);
    }

    private void items() {
        edges.test("2", "Throws `IndexOutOfBoundsException` if there is no such kind or quantity", RICH + """
                keeps addItem(-1, 0, 1, 0) -> throws IndexOutOfBoundsException
                keeps addItem(3, 3, 1, 0) -> throws IndexOutOfBoundsException
                keeps addItem(0, -1, 1, 0) -> throws IndexOutOfBoundsException
                keeps addItem(2, 4, 1, 0) -> throws IndexOutOfBoundsException
                addItem(0, 0, 1, 0) -> 3
                addItem(2, 3, 1, 0) -> 4
                """);
        edges.test("2", "Throws `IllegalArgumentException` if the tolerance or the drift is out of range", RICH + """
                keeps addItem(0, 0, 0, 0) -> throws IllegalArgumentException
                keeps addItem(0, 0, 1000, 99) -> throws IllegalArgumentException
                keeps addItem(0, 0, 1, -1) -> throws IllegalArgumentException
                keeps addItem(0, 0, 999, 100) -> throws IllegalArgumentException
                keeps addItem(0, 0, -1, 0) -> throws IllegalArgumentException
                addItem(0, 0, 1, 99) -> 3
                addItem(0, 0, 999, 0) -> 4
                """);
        edges.test("2", "Throws `IllegalStateException` if there are 16 items", RICH + """
                12 x addItem(1, 1, 5, 5)
                addItem(0, 3, 999, 99) -> 15
                keeps addItem(0, 3, 999, 99) -> throws IllegalStateException
                undo() -> 7
                addItem(0, 3, 998, 98) -> 15
                item(15, 2) -> 998
                """);
        edges.test("3", "0 for the tolerance, 1 for the drift, 2 for the rule, 3 for the base", RICH + """
                keeps set(1, -1, 2) -> throws IllegalArgumentException
                keeps set(1, 4, 2) -> throws IllegalArgumentException
                set(1, 0, 11) -> 90
                set(1, 1, 12) -> 10
                set(1, 2, 3) -> 0
                set(1, 3, 14) -> 100
                item(1, 2) -> 11
                item(1, 3) -> 12
                item(1, 4) -> 3
                item(1, 5) -> 14
                item(2, 2) -> 90
                """);
        edges.test("3", "Throws `IndexOutOfBoundsException` if there is no such item", RICH + """
                keeps set(-1, 0, 5) -> throws IndexOutOfBoundsException
                keeps set(3, 0, 5) -> throws IndexOutOfBoundsException
                set(0, 0, 5) -> 9
                set(2, 0, 5) -> 90
                """);
        edges.test("3", "Throws `IllegalArgumentException` if what is out of range, or the value is", RICH + """
                keeps set(2, 0, 0) -> throws IllegalArgumentException
                keeps set(2, 0, 1000) -> throws IllegalArgumentException
                keeps set(2, 1, -1) -> throws IllegalArgumentException
                keeps set(2, 1, 100) -> throws IllegalArgumentException
                keeps set(2, 2, -1) -> throws IllegalArgumentException
                keeps set(2, 2, 4) -> throws IllegalArgumentException
                keeps set(2, 3, 0) -> throws IllegalArgumentException
                keeps set(2, 3, 1000) -> throws IllegalArgumentException
                keeps set(2, -1, 1) -> throws IllegalArgumentException
                keeps set(2, 4, 1) -> throws IllegalArgumentException
                set(2, 0, 999) -> 90
                set(2, 1, 0) -> 4
                set(2, 2, 1) -> 0
                set(2, 3, 1) -> 100
                """);
    }

    private void numbersOfItems() {
        edges.test("4", "6 for the number of its calibrations, doubtful ones included, 7 for its current calibration, or -1, 8 for the day on"
                + " which that is due, or -1, 9 for its state: 0 without a current calibration, 2 if that is overdue, otherwise 1, 10 for the"
                + " sum of its costs", ITEMS + """
                item(2, 0) -> 2
                item(2, 1) -> 0
                item(2, 2) -> 90
                item(2, 3) -> 4
                item(2, 4) -> 0
                item(2, 5) -> 100
                item(2, 6) -> 0
                item(2, 7) -> -1
                item(2, 8) -> -1
                item(2, 9) -> 0
                item(2, 10) -> 0
                calibrate(2, 0, 0) -> 0
                calibrate(2, 0, 0) -> 1
                item(2, 6) -> 2
                item(2, 7) -> 1
                item(2, 8) -> 100
                item(2, 9) -> 1
                item(2, 10) -> 40
                pass(100) -> 100
                item(2, 9) -> 1
                pass(1) -> 101
                item(2, 9) -> 2
                item(2, 8) -> 100
                recall(2, 0, 0) -> 0
                item(2, 6) -> 2
                item(2, 7) -> -1
                item(2, 8) -> -1
                item(2, 9) -> 0
                item(2, 10) -> 40
                calibrate(2, 0, 0) -> 2
                item(2, 6) -> 3
                item(2, 7) -> 2
                item(2, 8) -> 201
                item(0, 7) -> -1
                item(0, 6) -> 0
                """);
        edges.test("4", "7 for its current calibration, or -1, 8 for the day on which that is due, or -1, 9 for its state: 0 without a"
                + " current calibration, 2 if that is overdue, otherwise 1", """
                addItem(2, 3, 90, 0) -> 0
                addItem(0, 3, 9, 0) -> 1
                calibrate(0, 1, 0) -> 0
                item(0, 7) -> 0
                item(0, 8) -> 100
                item(0, 9) -> 1
                pass(100) -> 100
                item(0, 9) -> 1
                pass(1) -> 101
                item(0, 9) -> 2
                undo() -> 4
                set(0, 2, 1) -> 0
                set(0, 0, 1) -> 90
                item(0, 8) -> 0
                item(0, 9) -> 2
                """);
        edges.test("4", "Throws `IndexOutOfBoundsException` if there is no such item", RICH + """
                keeps item(-1, 0) -> throws IndexOutOfBoundsException
                keeps item(3, 0) -> throws IndexOutOfBoundsException
                keeps item(0, 0) -> 0
                keeps item(2, 0) -> 2
                """);
        edges.test("4", "Throws `IllegalArgumentException` if what is not from 0 to 10", RICH + """
                keeps item(2, -1) -> throws IllegalArgumentException
                keeps item(2, 11) -> throws IllegalArgumentException
                keeps item(2, 0) -> 2
                keeps item(2, 10) -> 26
                """);
    }

    private void daysAndParts() {
        edges.test("5", "the number of days, 1 to 999", RICH + """
                pass(1) -> 6
                pass(999) -> 1005
                """);
        edges.test("5", "Throws `IllegalArgumentException` if the number is out of range", RICH + """
                keeps pass(0) -> throws IllegalArgumentException
                keeps pass(-1) -> throws IllegalArgumentException
                keeps pass(1000) -> throws IllegalArgumentException
                today() -> 5
                """);
        edges.test("5", "Throws `IllegalStateException` if the day would be greater than 9999", RICH + """
                10 x pass(999)
                keeps pass(5) -> throws IllegalStateException
                keeps pass(999) -> throws IllegalStateException
                pass(4) -> 9999
                keeps pass(1) -> throws IllegalStateException
                keeps pass(0) -> throws IllegalArgumentException
                undo() -> 7
                today() -> 9995
                pass(3) -> 9998
                """);
        edges.test("6", "Returns the present day", """
                today() -> 0
                keeps today() -> 0
                10 x pass(999)
                pass(9) -> 9999
                today() -> 9999
                undo() -> 7
                today() -> 9990
                """);
        edges.test("7", "Adds a part to the list, behind the others", """
                part(0, 9) -> 81
                part(0, 0) -> 0
                part(0, 9) -> 81
                part(0, 1) -> 1
                square(0) -> 81
                square(1) -> 0
                square(2) -> 81
                square(3) -> 1
                """);
        edges.test("7", "Throws `IndexOutOfBoundsException` if there is no such kind", RICH + """
                keeps part(-1, 0) -> throws IndexOutOfBoundsException
                keeps part(4, 999) -> throws IndexOutOfBoundsException
                part(3, 999) -> 499001
                part(0, 999) -> 998001
                """);
        edges.test("7", "Throws `IllegalArgumentException` if the amount is out of range", RICH + """
                keeps part(0, -1) -> throws IllegalArgumentException
                keeps part(0, 1000) -> throws IllegalArgumentException
                part(0, 0) -> 0
                part(2, 999) -> 166334
                """);
        edges.test("7", "Throws `IllegalStateException` if there are 6 parts", RICH + """
                4 x part(3, 1)
                part(3, 5) -> 13
                keeps part(3, 5) -> throws IllegalStateException
                square(-1) -> 26
                account(9) -> 6
                """);
        edges.test("8", "the index of the part, from 0, or -1 for the sum of all squares", """
                square(-1) -> 0
                part(0, 2) -> 4
                part(0, 3) -> 9
                square(0) -> 4
                square(1) -> 9
                square(-1) -> 13
                keeps square(-1) -> 13
                clearParts() -> 2
                6 x part(0, 999)
                square(-1) -> 5988006
                square(5) -> 998001
                """);
        edges.test("8", "Throws `NoSuchElementException` if index is not -1 and there is no such part", RICH + """
                keeps square(-2) -> throws NoSuchElementException
                keeps square(1) -> throws NoSuchElementException
                square(0) -> 9
                part(0, 1) -> 1
                square(1) -> 1
                square(2) -> throws NoSuchElementException
                clearParts() -> 2
                square(0) -> throws NoSuchElementException
                5 x part(0, 0)
                part(0, 2) -> 4
                square(5) -> 4
                square(6) -> throws NoSuchElementException
                """);
        edges.test("9", "Removes all parts from the list", """
                6 x part(0, 3)
                clearParts() -> 6
                account(9) -> 0
                square(-1) -> 0
                square(0) -> throws NoSuchElementException
                6 x part(0, 1)
                square(-1) -> 6
                """);
        edges.test("9", "Returns the number of parts that there were", """
                clearParts() -> 0
                part(0, 0) -> 0
                clearParts() -> 1
                clearParts() -> 0
                6 x part(0, 0)
                clearParts() -> 6
                """);
    }

    private void calibrations() {
        edges.test("10", "Throws `IndexOutOfBoundsException` if there is no such item or standard", RICH + """
                keeps calibrate(-1, 0, 0) -> throws IndexOutOfBoundsException
                keeps calibrate(3, 0, 0) -> throws IndexOutOfBoundsException
                keeps calibrate(2, -1, 0) -> throws IndexOutOfBoundsException
                keeps calibrate(2, 3, 0) -> throws IndexOutOfBoundsException
                calibrate(2, 1, 0) -> 2
                calibrate(1, 0, 0) -> 3
                """);
        edges.test("10", "Throws `IllegalArgumentException` if the offset is out of range", RICH + """
                keeps calibrate(2, 0, -1000) -> throws IllegalArgumentException
                keeps calibrate(2, 0, 1000) -> throws IllegalArgumentException
                calibrate(2, 0, 999) -> 2
                calibrate(2, 0, -999) -> 3
                """);
        edges.test("10", "Throws `UnsupportedOperationException` if it is refused; the reason is kept for refusal", RICH + """
                keeps calibrate(2, 2, 0) -> throws UnsupportedOperationException
                refusal(true) -> 1
                refusal(false) -> -1
                addItem(1, 0, 9, 0) -> 3
                keeps calibrate(2, 3, 0) -> throws UnsupportedOperationException
                refusal(true) -> 3
                refusal(false) -> -1
                wouldRefuse(2, 2) -> 1
                refusal(true) -> 3
                keeps calibrate(2, 3, 1000) -> throws IllegalArgumentException
                refusal(true) -> 3
                calibrate(3, 0, 0) -> 2
                calibrate(2, 3, 0) -> 3
                refusal(true) -> 3
                """);
        edges.test("11", "Returns the reason, or 0 if it would not be refused", RICH + """
                keeps wouldRefuse(1, 0) -> 0
                keeps wouldRefuse(2, 1) -> 0
                keeps wouldRefuse(0, 1) -> 1
                keeps wouldRefuse(2, 2) -> 1
                pass(95) -> 100
                wouldRefuse(2, 1) -> 0
                pass(1) -> 101
                keeps wouldRefuse(2, 1) -> 4
                refusal(true) -> 1
                account(1) -> 2
                """);
        edges.test("11", "Throws `IndexOutOfBoundsException` if there is no such item or standard", RICH + """
                keeps wouldRefuse(-1, 0) -> throws IndexOutOfBoundsException
                keeps wouldRefuse(3, 0) -> throws IndexOutOfBoundsException
                keeps wouldRefuse(0, -1) -> throws IndexOutOfBoundsException
                keeps wouldRefuse(0, 3) -> throws IndexOutOfBoundsException
                wouldRefuse(0, 2) -> 1
                wouldRefuse(2, 0) -> 0
                """);
    }

    private void bestStandards() {
        edges.test("12", "would have the least variance; of several the one with the lowest number", """
                addItem(2, 0, 90, 0) -> 0
                addItem(0, 0, 9, 0) -> 1
                addItem(0, 0, 9, 0) -> 2
                addItem(1, 0, 90, 10) -> 3
                best(0) -> 1
                set(2, 3, 999) -> 1
                set(1, 3, 999) -> 1
                best(0) -> 1
                set(2, 3, 998) -> 999
                best(0) -> 2
                set(1, 3, 3) -> 999
                set(2, 3, 2) -> 998
                calibrate(3, 2, 0) -> 0
                best(0) -> 2
                set(2, 3, 3) -> 2
                best(0) -> 3
                pass(21) -> 21
                best(0) -> 1
                undo() -> 7
                pass(20) -> 20
                best(0) -> 3
                keeps best(0) -> 3
                part(0, 999) -> 998001
                best(0) -> 3
                best(3) -> 1
                """);
        edges.test("12", "of several the one with the lowest number", """
                addItem(1, 0, 90, 0) -> 0
                addItem(2, 0, 90, 0) -> 1
                addItem(0, 0, 9, 0) -> 2
                addItem(0, 0, 9, 0) -> 3
                calibrate(0, 3, 0) -> 0
                best(1) -> 0
                pass(1) -> 1
                best(1) -> 0
                recall(3, 0, 0) -> 0
                best(1) -> 2
                set(2, 3, 2) -> 1
                best(1) -> 3
                best(0) -> 3
                """);
        edges.test("12", "Throws `IndexOutOfBoundsException` if there is no such item", RICH + """
                keeps best(-1) -> throws IndexOutOfBoundsException
                keeps best(3) -> throws IndexOutOfBoundsException
                keeps best(2) -> 0
                keeps best(0) -> throws NoSuchElementException
                """);
        edges.test("12", "Throws `NoSuchElementException` if it would be refused with each one", """
                addItem(2, 0, 90, 0) -> 0
                keeps best(0) -> throws NoSuchElementException
                addItem(0, 1, 9, 0) -> 1
                keeps best(0) -> throws NoSuchElementException
                addItem(1, 0, 9, 0) -> 2
                keeps best(0) -> throws NoSuchElementException
                addItem(0, 0, 9, 0) -> 3
                best(0) -> 3
                keeps best(3) -> throws NoSuchElementException
                59 x calibrate(0, 3, 0)
                best(0) -> 3
                calibrate(2, 3, 0) -> 59
                keeps best(0) -> throws NoSuchElementException
                """);
        edges.test("12", "Throws `NoSuchElementException` if it would be refused with each one", """
                addItem(0, 0, 9, 0) -> 0
                addItem(1, 1, 9, 0) -> 1
                addItem(2, 1, 9, 0) -> 2
                addItem(0, 1, 9, 0) -> 3
                calibrate(1, 3, 0) -> 0
                set(3, 3, 999) -> 1
                best(2) -> 1
                pass(100) -> 100
                best(2) -> 1
                pass(1) -> 101
                best(2) -> 3
                """);
    }

    private void numbersOfCalibrations() {
        edges.test("13", "11 for the number of calibrations of its chain, 12 for the number of other calibrations whose chains contain it",
                LONG + """
                calibration(0, 11) -> 1
                calibration(1, 11) -> 2
                calibration(2, 11) -> 3
                calibration(3, 11) -> 4
                calibration(0, 12) -> 3
                calibration(1, 12) -> 2
                calibration(2, 12) -> 1
                calibration(3, 12) -> 0
                calibrate(2, 0, 0) -> 4
                calibration(4, 11) -> 1
                calibration(4, 12) -> 0
                calibration(0, 12) -> 3
                recall(1, 0, 0) -> 0
                calibration(3, 11) -> 4
                calibration(0, 12) -> 3
                reach(0, 0, 9999) -> 1
                calibration(3, 12) -> 0
                reach(1, 0, 9999) -> 0
                calibration(1, 12) -> 2
                """);
        edges.test("13", "2 for its source, or -1, 3 for its day, 4 for its offset, 5 for its own square, 6 for its uncertainty, 7 for its"
                + " interval, 8 for the day on which it is due, 9 for 1 if it is in tolerance, otherwise 0, 10 for 1 if it is good, otherwise 0",
                LONG + """
                calibration(0, 0) -> 1
                calibration(0, 1) -> 0
                calibration(0, 2) -> -1
                calibration(3, 0) -> 2
                calibration(3, 1) -> 3
                calibration(3, 2) -> 2
                calibration(3, 3) -> 3
                calibration(3, 4) -> 0
                calibration(3, 5) -> 0
                calibration(2, 5) -> 1
                calibration(3, 6) -> 5
                calibration(3, 7) -> 100
                calibration(3, 8) -> 103
                calibration(3, 9) -> 1
                calibration(3, 10) -> 1
                recall(2, 3, 3) -> 0
                calibration(3, 10) -> 0
                calibration(2, 10) -> 1
                set(2, 0, 10) -> 90
                calibration(3, 9) -> 1
                set(2, 0, 9) -> 10
                calibration(3, 9) -> 0
                """);
        edges.test("13", "Throws `IndexOutOfBoundsException` if there is no such calibration", RICH + """
                keeps calibration(-1, 0) -> throws IndexOutOfBoundsException
                keeps calibration(2, 0) -> throws IndexOutOfBoundsException
                keeps calibration(1, 0) -> 2
                keeps calibration(0, 0) -> 1
                """);
        edges.test("13", "Throws `IllegalArgumentException` if what is not from 0 to 12", RICH + """
                keeps calibration(1, -1) -> throws IllegalArgumentException
                keeps calibration(1, 13) -> throws IllegalArgumentException
                keeps calibration(0, 12) -> 1
                """);
        edges.test("14", "true for the growth, false for the variance", LONG + """
                variance(0, true) -> 0
                variance(0, false) -> 13
                variance(1, true) -> 1
                variance(1, false) -> 14
                variance(3, true) -> 1
                variance(3, false) -> 17
                """);
        edges.test("14", "Throws `IndexOutOfBoundsException` if there is no such calibration", RICH + """
                keeps variance(-1, true) -> throws IndexOutOfBoundsException
                keeps variance(-1, false) -> throws IndexOutOfBoundsException
                keeps variance(2, true) -> throws IndexOutOfBoundsException
                keeps variance(2, false) -> throws IndexOutOfBoundsException
                variance(0, false) -> 1
                variance(1, true) -> 0
                """);
    }

    private void chains() {
        edges.test("15", "and of the square of the base that the primary standard had when the last one of these was made", LONG + """
                alongChain(0) -> 13
                alongChain(1) -> 14
                alongChain(2) -> 16
                alongChain(3) -> 17
                set(0, 3, 999) -> 3
                alongChain(3) -> 17
                calibrate(1, 2, 0) -> 4
                alongChain(4) -> 17
                calibrate(1, 0, 0) -> 5
                alongChain(5) -> 998001
                recall(0, 0, 9999) -> 0
                keeps alongChain(3) -> 17
                """);
        edges.test("15", "Throws `IndexOutOfBoundsException` if there is no such calibration", RICH + """
                keeps alongChain(-1) -> throws IndexOutOfBoundsException
                keeps alongChain(2) -> throws IndexOutOfBoundsException
                alongChain(0) -> 1
                alongChain(1) -> 1
                """);
        edges.test("16", "and so on, up to the one without a source", LONG + """
                chain(3, 0) -> 3
                chain(3, 1) -> 2
                chain(3, 2) -> 1
                chain(3, 3) -> 0
                chain(0, 0) -> 0
                calibrate(2, 0, 0) -> 4
                chain(4, 0) -> 4
                chain(4, 1) -> throws NoSuchElementException
                recall(0, 0, 9999) -> 0
                chain(3, 3) -> 0
                """);
        edges.test("16", "the index in the chain, from 0", LONG + """
                chain(3, -1) -> throws NoSuchElementException
                chain(3, 0) -> 3
                """);
        edges.test("16", "Throws `IndexOutOfBoundsException` if there is no such calibration", RICH + """
                keeps chain(-1, 0) -> throws IndexOutOfBoundsException
                keeps chain(2, 0) -> throws IndexOutOfBoundsException
                chain(1, 0) -> 1
                """);
        edges.test("16", "Throws `NoSuchElementException` if the chain has no such index", RICH + """
                keeps chain(1, -1) -> throws NoSuchElementException
                keeps chain(1, 2) -> throws NoSuchElementException
                keeps chain(0, 1) -> throws NoSuchElementException
                chain(0, 2) -> throws NoSuchElementException
                chain(1, 3) -> throws NoSuchElementException
                chain(1, 60) -> throws NoSuchElementException
                chain(1, 2147483647) -> throws NoSuchElementException
                chain(1, -2147483648) -> throws NoSuchElementException
                keeps chain(1, 1) -> 0
                keeps chain(0, 0) -> 0
                """);
        edges.test("17", "the one of its chain that has the greatest index of all those that recalls in force cover", LONG + """
                recall(2, 3, 3) -> 0
                cause(3) -> 3
                recall(3, 2, 2) -> 1
                cause(3) -> 2
                recall(2, 0, 2) -> 2
                cause(3) -> 1
                cause(2) -> 1
                cause(1) -> 1
                recall(0, 0, 0) -> 3
                cause(3) -> 0
                cause(0) -> 0
                lift(2) -> 3
                cause(1) -> 0
                lift(2) -> 2
                cause(3) -> 2
                lift(1) -> 1
                cause(3) -> 3
                """);
        edges.test("17", "Throws `IndexOutOfBoundsException` if there is no such calibration", RICH + """
                keeps cause(-1) -> throws IndexOutOfBoundsException
                keeps cause(2) -> throws IndexOutOfBoundsException
                recall(1, 0, 0) -> 2
                cause(1) -> 0
                """);
        edges.test("17", "Throws `NoSuchElementException` if it is good", RICH + """
                keeps cause(0) -> throws NoSuchElementException
                keeps cause(1) -> throws NoSuchElementException
                recall(2, 0, 0) -> 2
                keeps cause(1) -> 1
                keeps cause(0) -> throws NoSuchElementException
                lift(2) -> 2
                keeps cause(1) -> throws NoSuchElementException
                """);
    }

    private void recalls() {
        edges.test("18", "the last day, first to 9999", RICH + """
                keeps recall(1, 5, 4) -> throws IllegalArgumentException
                recall(1, 5, 5) -> 2
                recall(1, 5, 9999) -> 3
                keeps recall(1, 5, 10000) -> throws IllegalArgumentException
                recalled(2, 2) -> 5
                recalled(3, 2) -> 9999
                """);
        edges.test("18", "Throws `IndexOutOfBoundsException` if there is no such item", RICH + """
                keeps recall(-1, 0, 0) -> throws IndexOutOfBoundsException
                keeps recall(3, 0, 0) -> throws IndexOutOfBoundsException
                recall(0, 0, 0) -> 2
                recall(2, 0, 0) -> 3
                """);
        edges.test("18", "Throws `IllegalArgumentException` if a day is out of range", RICH + """
                keeps recall(0, -1, 5) -> throws IllegalArgumentException
                keeps recall(0, 10000, 10000) -> throws IllegalArgumentException
                keeps recall(0, 1, 0) -> throws IllegalArgumentException
                keeps recall(0, 9999, 9998) -> throws IllegalArgumentException
                recall(0, 9999, 9999) -> 2
                recall(0, 0, 9999) -> 3
                """);
        edges.test("18", "Throws `IllegalStateException` if 8 recalls are in force", RICH + """
                5 x recall(0, 9, 9)
                recall(0, 9, 9) -> 7
                keeps recall(0, 9, 9) -> throws IllegalStateException
                lift(7) -> 7
                recall(0, 0, 0) -> 7
                account(2) -> 0
                """);
        edges.test("19", "Returns the number of recalls that remain", RICH + """
                lift(1) -> 1
                lift(0) -> 0
                8 x recall(0, 9, 9)
                lift(0) -> 7
                """);
        edges.test("19", "Throws `IndexOutOfBoundsException` if there is no such recall", RICH + """
                keeps lift(-1) -> throws IndexOutOfBoundsException
                keeps lift(2) -> throws IndexOutOfBoundsException
                lift(1) -> 1
                keeps lift(1) -> throws IndexOutOfBoundsException
                lift(0) -> 0
                keeps lift(0) -> throws IndexOutOfBoundsException
                """);
        edges.test("20", "3 for the number of calibrations that it covers", RICH + """
                recalled(0, 0) -> 1
                recalled(0, 1) -> 2
                recalled(0, 2) -> 3
                recalled(0, 3) -> 0
                recall(0, 0, 9999) -> 2
                recalled(2, 3) -> 1
                calibrate(2, 0, 0) -> 2
                recalled(2, 3) -> 2
                recall(2, 0, 0) -> 3
                recalled(3, 3) -> 1
                recall(2, 0, 5) -> 4
                recalled(4, 3) -> 2
                """);
        edges.test("20", "Throws `IndexOutOfBoundsException` if there is no such recall", RICH + """
                keeps recalled(-1, 0) -> throws IndexOutOfBoundsException
                keeps recalled(2, 0) -> throws IndexOutOfBoundsException
                recalled(1, 0) -> 2
                recalled(0, 0) -> 1
                """);
        edges.test("20", "Throws `IllegalArgumentException` if what is not from 0 to 3", RICH + """
                keeps recalled(1, -1) -> throws IllegalArgumentException
                keeps recalled(1, 4) -> throws IllegalArgumentException
                recalled(1, 0) -> 2
                recalled(1, 3) -> 0
                """);
    }

    private void reaches() {
        edges.test("21", "Returns how many calibrations that are good now would be doubtful if a recall was told", LONG + """
                reach(0, 0, 0) -> 4
                reach(0, 1, 9999) -> 0
                reach(1, 0, 9999) -> 4
                reach(2, 0, 9999) -> 3
                reach(2, 0, 0) -> 0
                reach(2, 2, 9999) -> 1
                reach(3, 2, 2) -> 2
                recall(3, 2, 2) -> 0
                reach(3, 2, 2) -> 0
                reach(0, 0, 0) -> 2
                reach(2, 3, 3) -> 0
                recall(1, 0, 0) -> 1
                keeps reach(0, 0, 9999) -> 0
                """);
        edges.test("21", "the last day, first to 9999", RICH + """
                keeps reach(1, 1, 0) -> throws IllegalArgumentException
                reach(1, 0, 0) -> 2
                reach(1, 0, 9999) -> 2
                keeps reach(1, 0, 10000) -> throws IllegalArgumentException
                """);
        edges.test("21", "Throws `IndexOutOfBoundsException` if there is no such item", RICH + """
                keeps reach(-1, 0, 0) -> throws IndexOutOfBoundsException
                keeps reach(3, 0, 0) -> throws IndexOutOfBoundsException
                keeps reach(0, 0, 0) -> 2
                keeps reach(2, 0, 0) -> 1
                """);
        edges.test("21", "Throws `IllegalArgumentException` if a day is out of range", RICH + """
                keeps reach(0, -1, 0) -> throws IllegalArgumentException
                keeps reach(0, 10000, 10000) -> throws IllegalArgumentException
                keeps reach(0, 9999, 9998) -> throws IllegalArgumentException
                reach(0, 9999, 9999) -> 0
                6 x recall(2, 9, 9)
                account(7) -> 8
                reach(0, 0, 0) -> 2
                """);
    }

    private void measurements() {
        edges.test("22", "Throws `IndexOutOfBoundsException` if there is no such item", RICH + """
                keeps measure(-1, 0, 0) -> throws IndexOutOfBoundsException
                keeps measure(3, 0, 0) -> throws IndexOutOfBoundsException
                measure(2, 0, 0) -> 1
                """);
        edges.test("22", "Throws `IllegalArgumentException` if the value or the limit is out of range", RICH + """
                keeps measure(2, -10000, 5) -> throws IllegalArgumentException
                keeps measure(2, 10000, 5) -> throws IllegalArgumentException
                keeps measure(2, 5, -1) -> throws IllegalArgumentException
                keeps measure(2, 5, 10000) -> throws IllegalArgumentException
                keeps measure(0, 5, 10000) -> throws IllegalArgumentException
                measure(2, -9999, 9999) -> 1
                measure(2, 9999, 0) -> 2
                """);
        edges.test("22", "Throws `UnsupportedOperationException` if it is refused; the reason is kept for refusal", RICH + """
                keeps measure(1, 0, 0) -> throws UnsupportedOperationException
                refusal(true) -> 6
                refusal(false) -> -1
                pass(95) -> 100
                measure(2, 0, 0) -> 1
                pass(1) -> 101
                keeps measure(2, 0, 0) -> throws UnsupportedOperationException
                refusal(true) -> 4
                refusal(false) -> -1
                item(2, 10) -> 27
                """);
        edges.test("23", "5 for its allowance, 6 for its verdict, 7 for 1 if it is doubtful, otherwise 0", RICH + """
                measure(2, -30, 31) -> 1
                measurement(1, 0) -> 2
                measurement(1, 1) -> 1
                measurement(1, 2) -> 5
                measurement(1, 3) -> -30
                measurement(1, 4) -> 31
                measurement(1, 5) -> 3
                measurement(1, 6) -> 1
                measurement(1, 7) -> 0
                measurement(0, 2) -> 0
                recall(2, 0, 0) -> 2
                measurement(1, 7) -> 1
                measurement(0, 7) -> 1
                """);
        edges.test("23", "Throws `IndexOutOfBoundsException` if there is no such measurement", RICH + """
                keeps measurement(-1, 0) -> throws IndexOutOfBoundsException
                keeps measurement(1, 0) -> throws IndexOutOfBoundsException
                measurement(0, 0) -> 2
                measure(2, 0, 0) -> 1
                measurement(1, 3) -> 0
                undo() -> 7
                measurement(1, 0) -> throws IndexOutOfBoundsException
                """);
        edges.test("23", "Throws `IllegalArgumentException` if what is not from 0 to 7", RICH + """
                keeps measurement(0, -1) -> throws IllegalArgumentException
                keeps measurement(0, 8) -> throws IllegalArgumentException
                measurement(0, 0) -> 2
                measurement(0, 7) -> 0
                """);
        edges.test("24", "Nothing changes", RICH + """
                set(2, 0, 1) -> 90
                calibrate(2, 0, 999) -> 2
                keeps again(0) -> 2
                recall(2, 0, 0) -> 2
                keeps again(0) -> throws NoSuchElementException
                measurement(0, 6) -> 2
                """);
        edges.test("24", "Throws `IndexOutOfBoundsException` if there is no such measurement", RICH + """
                keeps again(-1) -> throws IndexOutOfBoundsException
                keeps again(1) -> throws IndexOutOfBoundsException
                again(0) -> 2
                """);
        edges.test("24", "Throws `NoSuchElementException` if there is no calibration by which it can be judged", ITEMS + """
                calibrate(2, 0, 0) -> 0
                calibrate(2, 0, 0) -> 1
                measure(2, 5, 9) -> 0
                pass(1) -> 1
                calibrate(2, 0, 0) -> 2
                recall(2, 0, 0) -> 0
                keeps again(0) -> throws NoSuchElementException
                calibrate(2, 0, 0) -> 3
                again(0) -> throws NoSuchElementException
                lift(0) -> 0
                recall(2, 1, 1) -> 0
                again(0) -> 2
                """);
    }

    private void certificates() {
        edges.test("25", "Makes a certificate for the current calibration of an item", CALIBRATED + """
                issue(2) -> 0
                calibrate(2, 0, 0) -> 2
                issue(2) -> 1
                recall(2, 0, 0) -> 0
                issue(2) -> throws UnsupportedOperationException
                lift(0) -> 0
                pass(1) -> 1
                calibrate(2, 0, 0) -> 3
                recall(2, 1, 1) -> 0
                issue(2) -> 2
                certificate(0, 0) -> 1
                certificate(1, 0) -> 2
                certificate(2, 0) -> 2
                """);
        edges.test("25", "Throws `IndexOutOfBoundsException` if there is no such item", RICH + """
                keeps issue(-1) -> throws IndexOutOfBoundsException
                keeps issue(3) -> throws IndexOutOfBoundsException
                issue(2) -> 1
                issue(1) -> 2
                """);
        edges.test("25", "Throws `UnsupportedOperationException` if it is refused; the reason is kept for refusal", RICH + """
                keeps issue(0) -> throws UnsupportedOperationException
                refusal(true) -> 3
                refusal(false) -> -1
                set(2, 0, 4) -> 90
                keeps issue(2) -> throws UnsupportedOperationException
                refusal(true) -> 8
                set(2, 0, 5) -> 4
                issue(2) -> 1
                refusal(true) -> 8
                """);
        edges.test("26", "0 for its calibration, 1 for the day on which it was made, 2 for its state", CALIBRATED + """
                pass(100) -> 100
                issue(2) -> 0
                certificate(0, 0) -> 1
                certificate(0, 1) -> 100
                certificate(0, 2) -> 0
                pass(1) -> 101
                certificate(0, 1) -> 100
                certificate(0, 2) -> 1
                recall(2, 0, 0) -> 0
                certificate(0, 2) -> 2
                """);
        edges.test("26", "Throws `IndexOutOfBoundsException` if there is no such certificate", RICH + """
                keeps certificate(-1, 0) -> throws IndexOutOfBoundsException
                keeps certificate(1, 0) -> throws IndexOutOfBoundsException
                certificate(0, 0) -> 1
                """);
        edges.test("26", "Throws `IllegalArgumentException` if what is not from 0 to 2", RICH + """
                keeps certificate(0, -1) -> throws IllegalArgumentException
                keeps certificate(0, 3) -> throws IllegalArgumentException
                certificate(0, 0) -> 1
                certificate(0, 2) -> 0
                """);
    }

    private void writing() {
        edges.test("27", "Writes a certificate; what was written before is replaced", CALIBRATED + """
                issue(2) -> 0
                issue(1) -> 1
                text ->\s
                write(0) -> 19
                text -> N0 I2 D0 O3 U1 S1<0
                write(1) -> 17
                text -> N1 I1 D0 O0 U1 S0
                written(16) -> 0
                written(17) -> throws NoSuchElementException
                write(1) -> 17
                text -> N1 I1 D0 O0 U1 S0
                write(0) -> 19
                text -> N0 I2 D0 O3 U1 S1<0
                account(10) -> 7
                """);
        edges.test("27", "Throws `IndexOutOfBoundsException` if there is no such certificate", RICH + """
                keeps write(-1) -> throws IndexOutOfBoundsException
                keeps write(1) -> throws IndexOutOfBoundsException
                text -> N0 I2 D0 O3 U1 S1<0
                write(0) -> 19
                """);
        edges.test("28", "the index, from 0", RICH + """
                written(-1) -> throws NoSuchElementException
                written(0) -> N
                written(1) -> 0
                written(2) -> \s
                written(17) -> <
                written(18) -> 0
                """);
        edges.test("28", "Throws `NoSuchElementException` if there is no such character", RICH + """
                keeps written(-1) -> throws NoSuchElementException
                keeps written(19) -> throws NoSuchElementException
                keeps written(18) -> 0
                issue(1) -> 1
                write(1) -> 17
                written(17) -> throws NoSuchElementException
                written(18) -> throws NoSuchElementException
                """);
        edges.test("28", "Throws `NoSuchElementException` if there is no such character", CALIBRATED + """
                written(0) -> throws NoSuchElementException
                write(0) -> throws IndexOutOfBoundsException
                written(0) -> throws NoSuchElementException
                issue(1) -> 0
                written(0) -> throws NoSuchElementException
                write(0) -> 17
                written(0) -> N
                """);
    }

    private void dueDays() {
        edges.test("29", "the earliest day first, of the same day the lowest number first; items without a current calibration are left out", """
                addItem(2, 0, 90, 0) -> 0
                addItem(0, 0, 9, 0) -> 1
                addItem(2, 0, 90, 0) -> 2
                addItem(2, 0, 90, 0) -> 3
                calibrate(3, 1, 0) -> 0
                calibrate(2, 1, 0) -> 1
                calibrate(0, 1, 0) -> 2
                due(0) -> 0
                due(1) -> 2
                due(2) -> 3
                set(3, 3, 99) -> 100
                due(0) -> 3
                due(1) -> 0
                due(2) -> 2
                set(0, 3, 101) -> 100
                due(1) -> 2
                due(2) -> 0
                pass(1) -> 1
                set(0, 3, 100) -> 101
                calibrate(2, 1, 0) -> 3
                due(1) -> 0
                due(2) -> 2
                recall(2, 1, 1) -> 0
                due(1) -> 0
                due(2) -> 2
                recall(2, 0, 0) -> 1
                due(1) -> 0
                keeps due(2) -> throws NoSuchElementException
                """);
        edges.test("29", "the earliest day first, of the same day the lowest number first", """
                addItem(2, 0, 1, 0) -> 0
                addItem(0, 0, 9, 0) -> 1
                addItem(2, 0, 1, 0) -> 2
                calibrate(0, 1, 0) -> 0
                calibrate(2, 1, 0) -> 1
                set(2, 2, 1) -> 0
                item(2, 8) -> 0
                due(0) -> 2
                due(1) -> 0
                due(2) -> throws NoSuchElementException
                set(0, 2, 1) -> 0
                due(0) -> 0
                due(1) -> 2
                """);
        edges.test("29", "the place, from 0", RICH + """
                keeps due(-1) -> throws NoSuchElementException
                keeps due(0) -> 1
                keeps due(1) -> 2
                """);
        edges.test("29", "Throws `NoSuchElementException` if there is no such place", RICH + """
                keeps due(2) -> throws NoSuchElementException
                recall(0, 0, 0) -> 2
                keeps due(0) -> throws NoSuchElementException
                """);
        edges.test("29", "Throws `NoSuchElementException` if there is no such place", """
                due(0) -> throws NoSuchElementException
                addItem(0, 0, 9, 0) -> 0
                15 x addItem(2, 0, 9, 0)
                due(0) -> throws NoSuchElementException
                calibrate(1, 0, 0) -> 0
                due(0) -> 1
                due(1) -> throws NoSuchElementException
                calibrate(15, 0, 0) -> 1
                calibrate(2, 0, 0) -> 2
                calibrate(3, 0, 0) -> 3
                calibrate(4, 0, 0) -> 4
                calibrate(5, 0, 0) -> 5
                calibrate(6, 0, 0) -> 6
                calibrate(7, 0, 0) -> 7
                calibrate(8, 0, 0) -> 8
                calibrate(9, 0, 0) -> 9
                calibrate(10, 0, 0) -> 10
                calibrate(11, 0, 0) -> 11
                calibrate(12, 0, 0) -> 12
                calibrate(13, 0, 0) -> 13
                calibrate(14, 0, 0) -> 14
                due(14) -> 15
                due(0) -> 1
                due(15) -> throws NoSuchElementException
                due(16) -> throws NoSuchElementException
                """);
        edges.test("30", "Returns how many items have a current calibration that would be overdue if the present day was greater", CALIBRATED + """
                overdueWithin(100) -> 0
                overdueWithin(101) -> 2
                set(1, 3, 99) -> 100
                overdueWithin(99) -> 0
                overdueWithin(100) -> 1
                pass(100) -> 100
                overdueWithin(0) -> 1
                overdueWithin(1) -> 2
                recall(2, 0, 0) -> 0
                overdueWithin(1) -> 1
                recall(0, 0, 0) -> 1
                overdueWithin(9999) -> 0
                """);
        edges.test("30", "Returns how many items have a current calibration that would be overdue if the present day was greater", """
                addItem(2, 0, 90, 0) -> 0
                overdueWithin(9999) -> 0
                addItem(0, 0, 9, 0) -> 1
                14 x addItem(2, 0, 90, 0)
                calibrate(0, 1, 0) -> 0
                overdueWithin(100) -> 0
                overdueWithin(101) -> 1
                calibrate(15, 1, 0) -> 1
                overdueWithin(101) -> 2
                """);
        edges.test("30", "the number of days, 0 to 9999", RICH + """
                keeps overdueWithin(0) -> 0
                keeps overdueWithin(9999) -> 2
                """);
        edges.test("30", "Throws `IllegalArgumentException` if the number is out of range", RICH + """
                keeps overdueWithin(-1) -> throws IllegalArgumentException
                keeps overdueWithin(10000) -> throws IllegalArgumentException
                """);
    }

    private void texts() {
        edges.test("31", "Throws `IllegalStateException` if the input has 80 characters", RICH + """
                70 x append('x') -> done
                append('x') -> done
                keeps append('x') -> throws IllegalStateException
                read() -> throws IllegalArgumentException
                faultPosition() -> 9
                append('x') -> done
                """);
        edges.test("32", "carries out its commands in their order, all of them or none", CALIBRATED + """
                type cal 2 1 0;pass 1;cal 2 1 1;recall 2 1 1;lift 0;cal 9 9 9
                keeps read() -> throws UnsupportedOperationException
                refusal(true) -> 10
                refusal(false) -> 5
                type cal 2 1 0;pass 1;cal 2 1 1;recall 2 1 1;lift 0;cal 2 0 9
                read() -> 6
                today() -> 1
                calibration(2, 3) -> 0
                calibration(3, 3) -> 1
                calibration(3, 2) -> 0
                calibration(4, 4) -> 9
                account(7) -> 0
                account(10) -> 6
                """);
        edges.test("32", "The input is empty afterwards, also if an exception is thrown", CALIBRATED + """
                type pass 5
                read() -> 1
                read() -> throws IllegalArgumentException
                faultPosition() -> 0
                type pass x
                read() -> throws IllegalArgumentException
                faultPosition() -> 5
                read() -> throws IllegalArgumentException
                faultPosition() -> 0
                type pass 0
                read() -> throws UnsupportedOperationException
                read() -> throws IllegalArgumentException
                faultPosition() -> 0
                80 x append('p') -> done
                read() -> throws IllegalArgumentException
                80 x append('p') -> done
                keeps append('p') -> throws IllegalStateException
                """);
        edges.test("32", "Throws `IllegalArgumentException` if the text has a fault; its position is kept for faultPosition", CALIBRATED + """
                keeps read() -> throws IllegalArgumentException
                faultPosition() -> 0
                type pass 1;pass 2x
                keeps read() -> throws IllegalArgumentException
                faultPosition() -> 13
                pass(1) -> 1
                undo() -> 5
                faultPosition() -> 13
                type pass 1;pass 2
                read() -> 2
                faultPosition() -> -1
                """);
        edges.test("32", "Throws `UnsupportedOperationException` if a command is refused; the reason and the number of the command are kept"
                + " for refusal", CALIBRATED + """
                type cert 0
                keeps read() -> throws UnsupportedOperationException
                refusal(true) -> 3
                refusal(false) -> 0
                type pass 1;pass 1;pass 1;pass 1;pass 1;pass 1;pass 1;pass 1;pass 1;pass 1;cert 9
                keeps read() -> throws UnsupportedOperationException
                refusal(true) -> 10
                refusal(false) -> 10
                type cert 0;cert 9
                keeps read() -> throws UnsupportedOperationException
                refusal(true) -> 3
                refusal(false) -> 0
                """);
        edges.test("32", "all of them or none", """
                8 x pass(1)
                type pass 5;pass 0
                keeps read() -> throws UnsupportedOperationException
                type pass 5;pass 0
                keeps read() -> throws UnsupportedOperationException
                account(10) -> 8
                8 x undo()
                type pass 5;pass 0
                keeps read() -> throws UnsupportedOperationException
                today() -> 0
                undo() -> throws IllegalStateException
                """);
        edges.test("33", "Returns the fault position of the text of the latest call of read", """
                type ;
                read() -> throws IllegalArgumentException
                faultPosition() -> 0
                type pass 1;p
                faultPosition() -> 0
                read() -> throws IllegalArgumentException
                faultPosition() -> 8
                keeps faultPosition() -> 8
                """);
        edges.test("33", "or -1 if that text had no fault or read has not been called", """
                faultPosition() -> -1
                type x
                faultPosition() -> -1
                read() -> throws IllegalArgumentException
                faultPosition() -> 0
                type pass 0
                read() -> throws UnsupportedOperationException
                faultPosition() -> -1
                type x
                read() -> throws IllegalArgumentException
                type pass 1
                read() -> 1
                faultPosition() -> -1
                """);
    }

    private void refusals() {
        edges.test("34", "false for the number of the refused command of a text, from 0, or -1 if a call was refused", CALIBRATED + """
                type cert 0
                read() -> throws UnsupportedOperationException
                refusal(true) -> 3
                refusal(false) -> 0
                issue(0) -> throws UnsupportedOperationException
                refusal(true) -> 3
                refusal(false) -> -1
                type pass 1;lift 0
                read() -> throws UnsupportedOperationException
                refusal(true) -> 10
                refusal(false) -> 1
                measure(0, 0, 0) -> throws UnsupportedOperationException
                refusal(true) -> 6
                refusal(false) -> -1
                keeps refusal(false) -> -1
                keeps refusal(true) -> 6
                """);
        edges.test("34", "Throws `NoSuchElementException` if nothing was refused", CALIBRATED + """
                keeps refusal(true) -> throws NoSuchElementException
                keeps refusal(false) -> throws NoSuchElementException
                wouldRefuse(1, 1) -> 1
                calibrate(1, 1, 1000) -> throws IllegalArgumentException
                calibrate(1, 9, 0) -> throws IndexOutOfBoundsException
                best(0) -> throws NoSuchElementException
                lift(0) -> throws IndexOutOfBoundsException
                type x
                read() -> throws IllegalArgumentException
                keeps refusal(true) -> throws NoSuchElementException
                keeps refusal(false) -> throws NoSuchElementException
                calibrate(1, 1, 0) -> throws UnsupportedOperationException
                refusal(true) -> 1
                refusal(false) -> -1
                """);
    }

    private void accounts() {
        edges.test("35", "4 for the doubtful ones, 5 for the certificates, 6 for those with the state 0, 7 for the recalls in force, 8 for the"
                + " sum of all costs, 9 for the parts in the list, 10 for the changes that can be undone", RICH + """
                account(0) -> 3
                account(1) -> 2
                account(2) -> 2
                account(3) -> 1
                account(4) -> 0
                account(5) -> 1
                account(6) -> 1
                account(7) -> 2
                account(8) -> 46
                account(9) -> 1
                account(10) -> 8
                measure(2, 0, 0) -> 1
                issue(1) -> 1
                recall(2, 0, 0) -> 2
                account(1) -> 2
                account(2) -> 1
                account(3) -> 2
                account(4) -> 2
                account(5) -> 2
                account(6) -> 1
                account(7) -> 3
                account(8) -> 52
                pass(96) -> 101
                account(6) -> 0
                restore() -> done
                account(10) -> 0
                """);
        edges.test("35", "Throws `IllegalArgumentException` if what is not from 0 to 10", RICH + """
                keeps account(-1) -> throws IllegalArgumentException
                keeps account(11) -> throws IllegalArgumentException
                keeps account(0) -> 3
                keeps account(10) -> 8
                """);
        edges.test("36", "their number divided by the number of all calibrations, both as doubles", ITEMS + """
                calibrate(2, 0, 0) -> 0
                goodShare() -> 1.0
                pass(1) -> 1
                calibrate(2, 0, 0) -> 1
                calibrate(2, 0, 0) -> 2
                recall(2, 0, 0) -> 0
                goodShare() -> 0.6666666666666666
                recall(2, 1, 1) -> 1
                goodShare() -> 0.0
                lift(0) -> 1
                goodShare() -> 0.3333333333333333
                """);
        edges.test("36", "Throws `ArithmeticException` if there are no calibrations", ITEMS + """
                keeps goodShare() -> throws ArithmeticException
                calibrate(2, 0, 0) -> 0
                goodShare() -> 1.0
                undo() -> 3
                keeps goodShare() -> throws ArithmeticException
                """);
    }

    private void undoing() {
        edges.test("37", "Undoes the latest change that can be undone", CALIBRATED + """
                recall(2, 0, 0) -> 0
                undo() -> 5
                calibration(1, 10) -> 1
                undo() -> 4
                account(1) -> 1
                undo() -> 3
                account(1) -> 0
                undo() -> 2
                account(0) -> 2
                undo() -> 1
                undo() -> 0
                account(0) -> 0
                undo() -> throws IllegalStateException
                """);
        edges.test("37", "Returns the number of changes that can still be undone", """
                pass(1) -> 1
                undo() -> 0
                8 x pass(1)
                undo() -> 7
                pass(1) -> 8
                pass(1) -> 9
                undo() -> 7
                """);
        edges.test("37", "Throws `IllegalStateException` if there is none", CALIBRATED + """
                5 x undo()
                keeps undo() -> throws IllegalStateException
                account(0) -> 0
                save() -> done
                keeps undo() -> throws IllegalStateException
                addItem(0, 0, 9, 0) -> 0
                restore() -> done
                keeps undo() -> throws IllegalStateException
                account(0) -> 0
                """);
    }

    private void snapshots() {
        edges.test("38", "Makes a snapshot, in place of an earlier one", CALIBRATED + """
                save() -> done
                pass(1) -> 1
                save() -> done
                account(10) -> 6
                pass(1) -> 2
                recall(2, 0, 0) -> 0
                restore() -> done
                today() -> 1
                account(7) -> 0
                save() -> done
                pass(5) -> 6
                undo() -> 0
                restore() -> done
                today() -> 1
                """);
        edges.test("39", "Restores the snapshot, which stays", """
                save() -> done
                addItem(0, 0, 9, 0) -> 0
                restore() -> done
                account(0) -> 0
                16 x addItem(0, 0, 9, 0)
                restore() -> done
                account(0) -> 0
                keeps restore() -> done
                addItem(2, 1, 7, 7) -> 0
                item(0, 2) -> 7
                restore() -> done
                item(0, 2) -> throws IndexOutOfBoundsException
                """);
        edges.test("39", "No changes can be undone then", RICH + """
                restore() -> done
                account(10) -> 0
                keeps undo() -> throws IllegalStateException
                pass(1) -> 1
                undo() -> 0
                today() -> 0
                undo() -> throws IllegalStateException
                8 x pass(1)
                pass(1) -> 9
                8 x undo()
                today() -> 1
                undo() -> throws IllegalStateException
                """);
        edges.test("39", "Throws `IllegalStateException` if there is no snapshot", CALIBRATED + """
                keeps restore() -> throws IllegalStateException
                account(10) -> 5
                undo() -> 4
                keeps restore() -> throws IllegalStateException
                save() -> done
                restore() -> done
                account(10) -> 0
                """);
    }
}
