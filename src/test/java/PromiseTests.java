import java.util.ArrayList;
import java.util.List;

/** At least one script for each promise: ordinary inputs, the edges that the document names, and wrong inputs. */
public final class PromiseTests {
    private static final String CHAIN = """
            addItem(0, 0, 9, 0) -> 0
            addItem(1, 0, 90, 10) -> 1
            addItem(2, 0, 90, 4) -> 2
            """;
    /** As the chain, with item 1 calibrated with 0, and 2 with 1: uncertainties 1, offsets 0 and 3. */
    private static final String CALIBRATED = CHAIN + """
            calibrate(1, 0, 0) -> 0
            calibrate(2, 1, 3) -> 1
            """;

    private static final String[][] COMMANDS_AND_CALLS = {{"part 1 4", "part(1, 4)"}, {"cal 2 1 -5", "calibrate(2, 1, -5)"},
        {"pass 7", "pass(7)"}, {"recall 0 0 0", "recall(0, 0, 0)"}, {"lift 0", "lift(0)"},
        {"measure 2 -9 100", "measure(2, -9, 100)"}, {"cert 2", "issue(2)"}};

    public static void main(String[] args) {
        objectsAndItems();
        daysAndParts();
        calibrations();
        bestStandards();
        intervals();
        chains();
        recalls();
        measurements();
        certificates();
        dueDays();
        texts();
        textFaults();
        textRefusals();
        accounts();
        history();
        snapshots();
        limits();
        System.out.println("PromiseTests: " + Script.passed() + " passed, " + Script.failed() + " failed");
        System.exit(Script.failed() == 0 ? 0 : 1);
    }

    private static void objectsAndItems() {
        Script.run("promise 1: a new object is empty", """
                account(0) -> 0
                account(1) -> 0
                account(2) -> 0
                account(3) -> 0
                account(4) -> 0
                account(5) -> 0
                account(6) -> 0
                account(7) -> 0
                account(8) -> 0
                account(9) -> 0
                account(10) -> 0
                today() -> 0
                faultPosition() -> -1
                square(-1) -> 0
                item(0, 0) -> throws IndexOutOfBoundsException
                calibration(0, 0) -> throws IndexOutOfBoundsException
                recalled(0, 0) -> throws IndexOutOfBoundsException
                measurement(0, 0) -> throws IndexOutOfBoundsException
                certificate(0, 0) -> throws IndexOutOfBoundsException
                refusal(true) -> throws NoSuchElementException
                written(0) -> throws NoSuchElementException
                undo() -> throws IllegalStateException
                restore() -> throws IllegalStateException
                """);
        Script.run("promise 2: items are numbered, and their first rule and base", """
                addItem(0, 3, 1, 0) -> 0
                addItem(2, 0, 999, 99) -> 1
                item(0, 4) -> 0
                item(0, 5) -> 1
                item(1, 0) -> 2
                item(1, 1) -> 0
                item(1, 2) -> 999
                item(1, 3) -> 99
                item(1, 4) -> 0
                item(1, 5) -> 100
                """);
        Script.run("promise 2: what is refused, the first cause first", """
                addItem(-1, 0, 1, 0) -> throws IndexOutOfBoundsException
                addItem(3, 0, 1, 0) -> throws IndexOutOfBoundsException
                addItem(0, -1, 1, 0) -> throws IndexOutOfBoundsException
                addItem(0, 4, 0, 0) -> throws IndexOutOfBoundsException
                addItem(0, 0, 0, 0) -> throws IllegalArgumentException
                addItem(0, 0, 1000, 0) -> throws IllegalArgumentException
                addItem(0, 0, 1, -1) -> throws IllegalArgumentException
                addItem(0, 0, 1, 100) -> throws IllegalArgumentException
                account(0) -> 0
                account(10) -> 0
                16 x addItem(1, 1, 5, 5)
                account(0) -> 16
                addItem(1, 1, 5, 5) -> throws IllegalStateException
                addItem(1, 1, 5, 100) -> throws IllegalArgumentException
                addItem(1, 4, 5, 100) -> throws IndexOutOfBoundsException
                account(0) -> 16
                """);
        Script.run("promise 3: set answers the previous number", """
                addItem(1, 0, 90, 10) -> 0
                set(0, 0, 999) -> 90
                set(0, 0, 1) -> 999
                set(0, 1, 0) -> 10
                set(0, 1, 99) -> 0
                set(0, 2, 3) -> 0
                set(0, 2, 0) -> 3
                set(0, 3, 1) -> 100
                set(0, 3, 999) -> 1
                item(0, 2) -> 1
                item(0, 3) -> 99
                item(0, 4) -> 0
                item(0, 5) -> 999
                """);
        Script.run("promise 3: wrong inputs", """
                addItem(1, 0, 90, 10) -> 0
                set(-1, 0, 5) -> throws IndexOutOfBoundsException
                set(1, 9, 5) -> throws IndexOutOfBoundsException
                set(0, -1, 5) -> throws IllegalArgumentException
                set(0, 4, 5) -> throws IllegalArgumentException
                set(0, 0, 0) -> throws IllegalArgumentException
                set(0, 0, 1000) -> throws IllegalArgumentException
                set(0, 1, -1) -> throws IllegalArgumentException
                set(0, 1, 100) -> throws IllegalArgumentException
                set(0, 2, -1) -> throws IllegalArgumentException
                set(0, 2, 4) -> throws IllegalArgumentException
                set(0, 3, 0) -> throws IllegalArgumentException
                set(0, 3, 1000) -> throws IllegalArgumentException
                item(0, 2) -> 90
                item(0, 3) -> 10
                item(0, 4) -> 0
                item(0, 5) -> 100
                account(10) -> 1
                """);
        Script.run("promise 4: each number of an item", CALIBRATED + """
                item(1, 0) -> 1
                item(2, 0) -> 2
                item(1, 1) -> 0
                item(1, 2) -> 90
                item(2, 3) -> 4
                item(1, 6) -> 1
                item(0, 6) -> 0
                item(0, 7) -> -1
                item(0, 8) -> -1
                item(0, 9) -> 0
                item(0, 10) -> 0
                item(1, 7) -> 0
                item(2, 7) -> 1
                item(2, 8) -> 100
                item(2, 9) -> 1
                item(2, 10) -> 20
                part(0, 1) -> 1
                part(0, 1) -> 1
                calibrate(2, 0, 4) -> 2
                item(2, 6) -> 2
                item(2, 7) -> 2
                item(2, 10) -> 46
                measure(2, 5, 5) -> 0
                item(2, 10) -> 47
                issue(2) -> 0
                item(2, 10) -> 52
                pass(100) -> 100
                item(2, 9) -> 1
                pass(1) -> 101
                item(2, 9) -> 2
                recall(2, 0, 9) -> 0
                item(2, 6) -> 2
                item(2, 7) -> -1
                item(2, 8) -> -1
                item(2, 9) -> 0
                item(2, 10) -> 52
                item(-1, 0) -> throws IndexOutOfBoundsException
                item(3, 99) -> throws IndexOutOfBoundsException
                item(0, -1) -> throws IllegalArgumentException
                item(0, 11) -> throws IllegalArgumentException
                """);
    }

    private static void daysAndParts() {
        Script.run("promise 5: days go by up to 9999", """
                pass(0) -> throws IllegalArgumentException
                pass(-1) -> throws IllegalArgumentException
                pass(1000) -> throws IllegalArgumentException
                pass(1) -> 1
                10 x pass(999)
                today() -> 9991
                pass(9) -> throws IllegalStateException
                pass(1000) -> throws IllegalArgumentException
                pass(8) -> 9999
                pass(1) -> throws IllegalStateException
                today() -> 9999
                """);
        Script.run("promise 6: today", """
                today() -> 0
                pass(7) -> 7
                today() -> 7
                undo() -> 0
                today() -> 0
                """);
        Script.run("promise 7: squares are divided and rounded up", """
                part(0, 999) -> 998001
                part(1, 4) -> 6
                part(2, 7) -> 9
                part(3, 3) -> 5
                part(1, 3) -> 3
                part(2, 0) -> 0
                part(0, 1) -> throws IllegalStateException
                part(0, 1000) -> throws IllegalArgumentException
                part(4, 1000) -> throws IndexOutOfBoundsException
                account(9) -> 6
                clearParts() -> 6
                part(-1, 0) -> throws IndexOutOfBoundsException
                part(0, -1) -> throws IllegalArgumentException
                part(2, 1) -> 1
                part(3, 1) -> 1
                part(1, 1) -> 1
                part(3, 999) -> 499001
                part(1, 999) -> 332667
                part(2, 999) -> 166334
                """);
        Script.run("promise 8: squares of the list, behind one another", """
                square(-1) -> 0
                square(0) -> throws NoSuchElementException
                part(0, 3) -> 9
                part(0, 2) -> 4
                square(0) -> 9
                square(1) -> 4
                square(-1) -> 13
                square(2) -> throws NoSuchElementException
                square(-2) -> throws NoSuchElementException
                """);
        Script.run("promise 9: clearParts", """
                clearParts() -> 0
                account(10) -> 1
                part(0, 3) -> 9
                part(0, 3) -> 9
                clearParts() -> 2
                square(-1) -> 0
                square(0) -> throws NoSuchElementException
                account(9) -> 0
                """);
    }

    private static void calibrations() {
        Script.run("promise 10: numbers, costs and the empty list", CHAIN + """
                part(0, 3) -> 9
                calibrate(1, 0, -999) -> 0
                account(9) -> 0
                account(8) -> 23
                calibrate(1, 0, 999) -> 1
                account(8) -> 43
                item(1, 7) -> 1
                """);
        Script.run("promise 10: wrong inputs before reasons", CHAIN + """
                part(0, 3) -> 9
                calibrate(3, 0, 0) -> throws IndexOutOfBoundsException
                calibrate(-1, 0, 0) -> throws IndexOutOfBoundsException
                calibrate(1, 3, 5000) -> throws IndexOutOfBoundsException
                calibrate(1, -1, 0) -> throws IndexOutOfBoundsException
                calibrate(0, 0, 1000) -> throws IllegalArgumentException
                calibrate(1, 0, -1000) -> throws IllegalArgumentException
                refusal(true) -> throws NoSuchElementException
                calibrate(0, 0, 0) -> throws UnsupportedOperationException
                refusal(true) -> 1
                refusal(false) -> -1
                calibrate(2, 1, 0) -> throws UnsupportedOperationException
                refusal(true) -> 3
                account(9) -> 1
                account(1) -> 0
                account(10) -> 4
                """);
        Script.run("promise 11: reasons 1 to 4 in their order", """
                addItem(0, 0, 9, 0) -> 0
                addItem(1, 0, 90, 0) -> 1
                addItem(2, 0, 90, 0) -> 2
                addItem(2, 1, 90, 0) -> 3
                addItem(1, 1, 90, 0) -> 4
                addItem(0, 1, 90, 0) -> 5
                wouldRefuse(0, 0) -> 1
                wouldRefuse(0, 5) -> 1
                wouldRefuse(1, 2) -> 1
                wouldRefuse(1, 3) -> 1
                wouldRefuse(1, 1) -> 1
                wouldRefuse(1, 5) -> 2
                wouldRefuse(2, 4) -> 2
                wouldRefuse(3, 0) -> 2
                wouldRefuse(2, 1) -> 3
                wouldRefuse(2, 0) -> 0
                wouldRefuse(1, 0) -> 0
                calibrate(1, 0, 0) -> 0
                wouldRefuse(2, 1) -> 0
                pass(100) -> 100
                wouldRefuse(2, 1) -> 0
                pass(1) -> 101
                wouldRefuse(2, 1) -> 4
                wouldRefuse(2, 0) -> 0
                wouldRefuse(6, 0) -> throws IndexOutOfBoundsException
                wouldRefuse(-1, 0) -> throws IndexOutOfBoundsException
                wouldRefuse(0, 6) -> throws IndexOutOfBoundsException
                wouldRefuse(0, -1) -> throws IndexOutOfBoundsException
                refusal(true) -> throws NoSuchElementException
                account(10) -> 8
                """);
        Script.run("promise 11: reason 5 comes last", CHAIN + """
                60 x calibrate(2, 0, 0)
                wouldRefuse(2, 0) -> 5
                wouldRefuse(2, 1) -> 3
                wouldRefuse(0, 0) -> 1
                part(0, 1) -> 1
                calibrate(1, 0, 0) -> throws UnsupportedOperationException
                refusal(true) -> 5
                account(1) -> 60
                account(9) -> 1
                item(2, 10) -> 1200
                """);
        Script.run("promise 13: each number of a calibration", CHAIN + """
                part(0, 3) -> 9
                calibrate(1, 0, -2) -> 0
                pass(55) -> 55
                part(1, 4) -> 6
                calibrate(2, 1, 7) -> 1
                calibration(0, 0) -> 1
                calibration(0, 1) -> 0
                calibration(0, 2) -> -1
                calibration(0, 3) -> 0
                calibration(0, 4) -> -2
                calibration(0, 5) -> 9
                calibration(0, 6) -> 4
                calibration(0, 7) -> 100
                calibration(0, 8) -> 100
                calibration(0, 9) -> 1
                calibration(0, 10) -> 1
                calibration(0, 11) -> 1
                calibration(0, 12) -> 1
                calibration(1, 0) -> 2
                calibration(1, 1) -> 1
                calibration(1, 2) -> 0
                calibration(1, 3) -> 55
                calibration(1, 4) -> 7
                calibration(1, 5) -> 6
                calibration(1, 6) -> 8
                calibration(1, 8) -> 155
                calibration(1, 11) -> 2
                calibration(1, 12) -> 0
                variance(0, false) -> 10
                variance(0, true) -> 0
                variance(1, true) -> 36
                variance(1, false) -> 52
                set(2, 0, 23) -> 90
                calibration(1, 9) -> 1
                set(2, 0, 22) -> 23
                calibration(1, 9) -> 0
                calibration(2, 0) -> throws IndexOutOfBoundsException
                calibration(-1, 99) -> throws IndexOutOfBoundsException
                calibration(0, -1) -> throws IllegalArgumentException
                calibration(0, 13) -> throws IllegalArgumentException
                """);
        Script.run("promise 13: a square root that is a whole number is not rounded", CHAIN + """
                set(0, 3, 3) -> 1
                part(0, 4) -> 16
                calibrate(1, 0, 0) -> 0
                calibration(0, 6) -> 5
                part(0, 4) -> 16
                part(0, 1) -> 1
                calibrate(1, 0, 0) -> 1
                calibration(1, 6) -> 6
                """);
        Script.run("promise 14: numbers stay as they were when the calibration was made", CALIBRATED + """
                set(0, 3, 900) -> 1
                set(1, 1, 99) -> 10
                pass(10) -> 10
                variance(0, false) -> 1
                variance(1, false) -> 1
                variance(1, true) -> 0
                calibrate(2, 1, 0) -> 2
                variance(2, true) -> 100
                variance(2, false) -> 101
                calibrate(1, 0, 0) -> 3
                variance(3, false) -> 810000
                calibration(3, 6) -> 900
                variance(4, false) -> throws IndexOutOfBoundsException
                variance(-1, true) -> throws IndexOutOfBoundsException
                """);
        Script.run("promise 14: the largest squares", """
                addItem(0, 0, 999, 0) -> 0
                addItem(1, 0, 999, 99) -> 1
                addItem(1, 0, 999, 99) -> 2
                set(0, 3, 999) -> 1
                set(1, 3, 999) -> 100
                6 x part(0, 999)
                square(-1) -> 5988006
                calibrate(1, 0, 0) -> 0
                variance(0, false) -> 6986007
                pass(999) -> 999
                6 x part(0, 999)
                calibrate(2, 1, -999) -> 1
                variance(1, true) -> 980100
                variance(1, false) -> 13954113
                calibration(1, 6) -> 3736
                """);
    }

    private static void bestStandards() {
        Script.run("promise 12: the least variance, of several the lowest number", """
                addItem(2, 0, 90, 0) -> 0
                best(0) -> throws NoSuchElementException
                addItem(0, 0, 9, 0) -> 1
                addItem(0, 0, 9, 0) -> 2
                addItem(0, 1, 9, 0) -> 3
                addItem(1, 0, 90, 10) -> 4
                best(0) -> 1
                set(1, 3, 5) -> 1
                best(0) -> 2
                best(4) -> 2
                set(2, 3, 4) -> 1
                calibrate(4, 2, 0) -> 0
                best(0) -> 2
                set(2, 3, 5) -> 4
                best(0) -> 4
                best(4) -> 1
                pass(30) -> 30
                best(0) -> 1
                set(1, 3, 6) -> 5
                set(2, 3, 6) -> 5
                best(0) -> 4
                recall(4, 0, 0) -> 0
                best(0) -> 1
                best(1) -> throws NoSuchElementException
                best(5) -> throws IndexOutOfBoundsException
                best(-1) -> throws IndexOutOfBoundsException
                account(10) -> 8
                refusal(true) -> throws NoSuchElementException
                """);
        Script.run("promise 12: nothing is best when there are 60 calibrations", CHAIN + """
                59 x calibrate(1, 0, 0)
                best(1) -> 0
                calibrate(1, 0, 0) -> 59
                best(1) -> throws NoSuchElementException
                """);
        Script.run("promise 12: the first standard of all can be the best", """
                addItem(0, 0, 9, 0) -> 0
                addItem(0, 0, 9, 0) -> 1
                addItem(2, 0, 9, 0) -> 2
                best(2) -> 0
                set(1, 3, 2) -> 1
                best(2) -> 0
                """);
        Script.run("promise 12: an overdue standard is left out", CALIBRATED + """
                set(0, 3, 999) -> 1
                set(1, 1, 0) -> 10
                pass(100) -> 100
                best(2) -> 1
                pass(1) -> 101
                best(2) -> 0
                """);
    }

    private static void intervals() {
        Script.run("rule 0 is the base, rule 1 the reach with the drift", CALIBRATED + """
                calibration(1, 7) -> 100
                set(2, 3, 7) -> 100
                calibration(1, 7) -> 7
                calibration(1, 8) -> 7
                set(2, 2, 1) -> 0
                calibration(1, 7) -> 999
                set(2, 0, 6) -> 90
                calibration(1, 7) -> 25
                set(2, 0, 5) -> 6
                calibration(1, 7) -> 0
                set(2, 0, 4) -> 5
                calibration(1, 7) -> 0
                calibration(1, 9) -> 0
                set(2, 1, 0) -> 4
                calibration(1, 7) -> 0
                set(2, 0, 5) -> 4
                calibration(1, 7) -> 999
                set(2, 0, 6) -> 5
                set(2, 1, 3) -> 0
                calibration(1, 7) -> 33
                set(2, 1, 99) -> 3
                calibration(1, 7) -> 1
                set(2, 1, 1) -> 99
                calibration(1, 7) -> 100
                """);
        Script.run("rule 2 takes the change since the good calibration before", CHAIN + """
                set(2, 2, 2) -> 0
                calibrate(2, 0, 10) -> 0
                calibration(0, 7) -> 999
                set(2, 1, 50) -> 4
                calibration(0, 7) -> 156
                pass(7) -> 7
                calibrate(2, 0, -5) -> 1
                calibration(1, 7) -> 38
                calibrate(2, 0, -6) -> 2
                calibration(2, 7) -> 82
                recall(2, 7, 7) -> 0
                calibration(2, 7) -> 35
                recall(0, 0, 0) -> 1
                calibration(2, 7) -> 164
                calibration(0, 7) -> 156
                lift(1) -> 1
                lift(0) -> 0
                calibrate(2, 0, -6) -> 3
                calibration(3, 7) -> 999
                pass(1) -> 8
                calibrate(2, 0, -7) -> 4
                pass(30) -> 38
                calibrate(2, 0, -8) -> 5
                calibration(5, 7) -> 999
                """);
        Script.run("rule 3 doubles and halves by the good calibrations", CHAIN + """
                set(2, 2, 3) -> 0
                set(2, 0, 10) -> 90
                calibrate(2, 0, 8) -> 0
                calibration(0, 7) -> 200
                calibrate(2, 0, 9) -> 1
                calibration(1, 7) -> 100
                calibration(0, 7) -> 200
                calibrate(1, 0, 50) -> 2
                calibrate(2, 0, 9) -> 3
                calibration(3, 7) -> 50
                pass(1) -> 1
                calibrate(2, 0, -8) -> 4
                calibration(4, 7) -> 100
                recall(2, 0, 0) -> 0
                calibration(4, 7) -> 200
                calibration(3, 7) -> 50
                recall(2, 1, 1) -> 1
                calibration(4, 7) -> 200
                set(2, 3, 500) -> 100
                calibration(4, 7) -> 999
                set(2, 3, 1) -> 500
                calibration(1, 7) -> 1
                set(2, 3, 3) -> 1
                calibration(1, 7) -> 1
                set(2, 0, 9) -> 10
                calibration(4, 7) -> 1
                lift(0) -> 1
                """);
        Script.run("rule 3 comes to 999 and back in order", CHAIN + """
                set(2, 2, 3) -> 0
                4 x calibrate(2, 0, 0)
                calibrate(2, 0, 89) -> 4
                calibration(3, 7) -> 999
                calibration(4, 7) -> 499
                8 x calibrate(2, 0, 89)
                calibration(12, 7) -> 1
                calibration(11, 7) -> 3
                """);
        Script.run("a day on which an item is due can be greater than 9999", CHAIN + """
                set(1, 3, 999) -> 100
                10 x pass(999)
                calibrate(1, 0, 0) -> 0
                item(1, 8) -> 10989
                calibration(0, 8) -> 10989
                overdueWithin(999) -> 0
                overdueWithin(1000) -> 1
                """);
    }

    private static void chains() {
        String chain = """
                addItem(0, 0, 9, 0) -> 0
                addItem(1, 0, 90, 10) -> 1
                addItem(1, 0, 90, 10) -> 2
                addItem(2, 0, 90, 10) -> 3
                part(0, 2) -> 4
                set(0, 3, 3) -> 1
                calibrate(1, 0, 0) -> 0
                set(0, 3, 7) -> 3
                pass(11) -> 11
                part(0, 1) -> 1
                calibrate(2, 1, 0) -> 1
                pass(20) -> 31
                calibrate(3, 2, 0) -> 2
                """;
        Script.run("promise 15: alongChain is the variance", chain + """
                alongChain(0) -> 13
                alongChain(1) -> 18
                alongChain(2) -> 22
                variance(2, false) -> 22
                variance(2, true) -> 4
                variance(1, true) -> 4
                alongChain(3) -> throws IndexOutOfBoundsException
                alongChain(-1) -> throws IndexOutOfBoundsException
                """);
        Script.run("promise 16: chain", chain + """
                chain(2, 0) -> 2
                chain(2, 1) -> 1
                chain(2, 2) -> 0
                chain(2, 3) -> throws NoSuchElementException
                chain(2, -1) -> throws NoSuchElementException
                chain(2, 2147483647) -> throws NoSuchElementException
                chain(0, 0) -> 0
                chain(0, 1) -> throws NoSuchElementException
                chain(3, 0) -> throws IndexOutOfBoundsException
                chain(-1, 0) -> throws IndexOutOfBoundsException
                calibration(2, 11) -> 3
                calibration(0, 12) -> 2
                calibration(1, 12) -> 1
                calibrate(2, 0, 0) -> 3
                calibrate(3, 2, 0) -> 4
                chain(4, 1) -> 3
                calibration(0, 12) -> 2
                calibration(3, 12) -> 1
                """);
        Script.run("promise 13: what is asked in between does not change the number of dependents", CALIBRATED + """
                reach(1, 0, 0) -> 2
                calibration(1, 12) -> 0
                reach(0, 0, 0) -> 2
                calibration(0, 12) -> 1
                """);
        Script.run("promise 17: cause is the covered one nearest to the primary standard", chain + """
                cause(2) -> throws NoSuchElementException
                recall(3, 31, 31) -> 0
                cause(2) -> 2
                cause(1) -> throws NoSuchElementException
                recall(1, 0, 0) -> 1
                cause(2) -> 0
                cause(1) -> 0
                cause(0) -> 0
                recall(2, 0, 9999) -> 2
                cause(2) -> 0
                lift(1) -> 2
                cause(2) -> 1
                cause(0) -> throws NoSuchElementException
                lift(1) -> 1
                cause(2) -> 2
                cause(3) -> throws IndexOutOfBoundsException
                cause(-1) -> throws IndexOutOfBoundsException
                """);
        Script.run("promise 17: what is covered in another chain is no cause", CALIBRATED + """
                recall(0, 0, 0) -> 0
                cause(0) -> 0
                cause(1) -> 0
                pass(5) -> 5
                calibrate(2, 0, 9) -> 2
                cause(2) -> throws NoSuchElementException
                recall(2, 5, 5) -> 1
                cause(2) -> 2
                cause(1) -> 0
                """);
    }

    private static void recalls() {
        Script.run("promise 18: which calibrations a recall covers", CALIBRATED + """
                pass(5) -> 5
                calibrate(2, 0, 9) -> 2
                pass(1) -> 6
                calibrate(2, 1, 9) -> 3
                recall(0, 5, 5) -> 0
                calibration(2, 10) -> 0
                calibration(0, 10) -> 1
                calibration(3, 10) -> 1
                recall(0, 1, 4) -> 1
                account(2) -> 3
                recall(1, 5, 9999) -> 2
                account(2) -> 3
                recall(2, 6, 6) -> 3
                calibration(3, 10) -> 0
                calibration(1, 10) -> 1
                recall(1, 0, 0) -> 4
                calibration(1, 10) -> 0
                calibration(0, 10) -> 0
                account(2) -> 0
                """);
        Script.run("promise 18: a calibration that is made later is covered in the same way", CHAIN + """
                recall(1, 3, 4) -> 0
                calibrate(1, 0, 0) -> 0
                pass(3) -> 3
                calibrate(1, 0, 0) -> 1
                calibration(1, 10) -> 0
                item(1, 7) -> 0
                calibrate(2, 1, 0) -> 2
                calibration(2, 2) -> 0
                calibration(2, 10) -> 1
                pass(2) -> 5
                calibrate(1, 0, 0) -> 3
                item(1, 7) -> 3
                """);
        Script.run("promise 18: wrong inputs", CHAIN + """
                recall(3, -1, 0) -> throws IndexOutOfBoundsException
                recall(-1, 0, 0) -> throws IndexOutOfBoundsException
                recall(0, -1, 0) -> throws IllegalArgumentException
                recall(0, 10000, 10000) -> throws IllegalArgumentException
                recall(0, 5, 4) -> throws IllegalArgumentException
                recall(0, 0, 10000) -> throws IllegalArgumentException
                recall(0, 9999, 9999) -> 0
                recall(0, 0, 9999) -> 1
                6 x recall(2, 1, 2)
                recall(0, 0, 0) -> throws IllegalStateException
                recall(0, 2, 1) -> throws IllegalArgumentException
                recall(3, 2, 1) -> throws IndexOutOfBoundsException
                account(7) -> 8
                """);
        Script.run("promise 19: later recalls get lower numbers", CALIBRATED + """
                recall(0, 1, 2) -> 0
                recall(1, 0, 4) -> 1
                recall(2, 5, 6) -> 2
                lift(3) -> throws IndexOutOfBoundsException
                lift(-1) -> throws IndexOutOfBoundsException
                lift(0) -> 2
                recalled(0, 0) -> 1
                recalled(1, 0) -> 2
                recalled(1, 1) -> 5
                recalled(1, 2) -> 6
                calibration(1, 10) -> 0
                lift(0) -> 1
                calibration(1, 10) -> 1
                recalled(0, 0) -> 2
                lift(0) -> 0
                lift(0) -> throws IndexOutOfBoundsException
                recall(1, 7, 7) -> 0
                """);
        Script.run("promise 20: each number of a recall", CALIBRATED + """
                recall(0, 0, 3) -> 0
                recalled(0, 0) -> 0
                recalled(0, 1) -> 0
                recalled(0, 2) -> 3
                recalled(0, 3) -> 1
                recall(1, 0, 9999) -> 1
                recalled(1, 3) -> 1
                recalled(1, 2) -> 9999
                calibrate(2, 0, 0) -> 2
                recalled(0, 3) -> 2
                recall(2, 0, 0) -> 2
                recalled(2, 3) -> 2
                recalled(3, 99) -> throws IndexOutOfBoundsException
                recalled(-1, 0) -> throws IndexOutOfBoundsException
                recalled(0, -1) -> throws IllegalArgumentException
                recalled(0, 4) -> throws IllegalArgumentException
                """);
        Script.run("promise 21: reach counts the good ones that would be doubtful", CALIBRATED + """
                pass(1) -> 1
                calibrate(2, 0, 3) -> 2
                reach(0, 0, 9999) -> 3
                reach(0, 0, 0) -> 2
                reach(1, 0, 9999) -> 2
                reach(2, 0, 9999) -> 2
                reach(2, 0, 0) -> 1
                reach(2, 2, 9999) -> 0
                recall(2, 0, 0) -> 0
                reach(1, 0, 9999) -> 1
                reach(0, 0, 9999) -> 2
                reach(2, 0, 0) -> 0
                account(10) -> 8
                reach(3, 5, 1) -> throws IndexOutOfBoundsException
                reach(-1, 0, 0) -> throws IndexOutOfBoundsException
                reach(0, -1, 0) -> throws IllegalArgumentException
                reach(0, 1, 0) -> throws IllegalArgumentException
                reach(0, 0, 10000) -> throws IllegalArgumentException
                7 x recall(2, 9, 9)
                reach(0, 0, 9999) -> 2
                """);
    }

    private static void measurements() {
        Script.run("promise 22: allowance and verdict", CALIBRATED + """
                pass(26) -> 26
                measure(2, 20, 21) -> 0
                measurement(0, 0) -> 2
                measurement(0, 1) -> 1
                measurement(0, 2) -> 26
                measurement(0, 3) -> 20
                measurement(0, 4) -> 21
                measurement(0, 5) -> 4
                measurement(0, 6) -> 2
                measurement(0, 7) -> 0
                measure(2, 20, 20) -> 1
                measurement(1, 6) -> 1
                measure(2, 20, 13) -> 2
                measurement(2, 6) -> 1
                measure(2, 20, 12) -> 3
                measurement(3, 6) -> 0
                measure(2, -14, 21) -> 4
                measurement(4, 6) -> 2
                measure(2, -15, 21) -> 5
                measurement(5, 6) -> 1
                measure(2, -9999, 9999) -> 6
                measurement(6, 6) -> 1
                measure(2, 9999, 0) -> 7
                measurement(7, 6) -> 0
                measurement(7, 3) -> 9999
                item(2, 10) -> 28
                """);
        Script.run("promise 22: wrong inputs before reasons, reasons in their order", CALIBRATED + """
                measure(3, 10000, 0) -> throws IndexOutOfBoundsException
                measure(-1, 0, 0) -> throws IndexOutOfBoundsException
                measure(1, 10000, 0) -> throws IllegalArgumentException
                measure(1, -10000, 0) -> throws IllegalArgumentException
                measure(1, 0, -1) -> throws IllegalArgumentException
                measure(1, 0, 10000) -> throws IllegalArgumentException
                refusal(true) -> throws NoSuchElementException
                measure(1, 0, 0) -> throws UnsupportedOperationException
                refusal(true) -> 6
                refusal(false) -> -1
                measure(0, 0, 0) -> throws UnsupportedOperationException
                refusal(true) -> 6
                40 x measure(2, 0, 0)
                account(3) -> 40
                measure(2, 0, 0) -> throws UnsupportedOperationException
                refusal(true) -> 7
                pass(101) -> 101
                measure(2, 0, 0) -> throws UnsupportedOperationException
                refusal(true) -> 4
                recall(1, 0, 0) -> 0
                measure(2, 0, 0) -> throws UnsupportedOperationException
                refusal(true) -> 3
                account(3) -> 40
                account(8) -> 80
                """);
        Script.run("promise 23: a measurement keeps its numbers, and is doubtful with its calibration", CALIBRATED + """
                measure(2, 20, 30) -> 0
                pass(3) -> 3
                calibrate(2, 0, 500) -> 2
                set(2, 1, 99) -> 4
                measure(2, 20, 30) -> 1
                measurement(0, 1) -> 1
                measurement(0, 5) -> 2
                measurement(0, 6) -> 2
                measurement(1, 1) -> 2
                measurement(1, 6) -> 0
                recall(1, 0, 0) -> 0
                measurement(0, 7) -> 1
                measurement(1, 7) -> 0
                account(4) -> 1
                measurement(0, 6) -> 2
                lift(0) -> 0
                measurement(0, 7) -> 0
                measurement(2, 99) -> throws IndexOutOfBoundsException
                measurement(-1, 0) -> throws IndexOutOfBoundsException
                measurement(0, -1) -> throws IllegalArgumentException
                measurement(0, 8) -> throws IllegalArgumentException
                """);
        Script.run("promise 24: judged again by the latest good one of its day or before", CALIBRATED + """
                pass(50) -> 50
                measure(2, 20, 21) -> 0
                again(0) -> 2
                set(2, 1, 6) -> 4
                again(0) -> 1
                measurement(0, 6) -> 2
                set(2, 1, 4) -> 6
                pass(40) -> 90
                again(0) -> 2
                calibrate(2, 0, 500) -> 2
                again(0) -> 2
                recall(1, 0, 0) -> 0
                again(0) -> throws NoSuchElementException
                lift(0) -> 0
                recall(2, 90, 90) -> 0
                again(0) -> 2
                measurement(0, 6) -> 2
                again(1) -> throws IndexOutOfBoundsException
                again(-1) -> throws IndexOutOfBoundsException
                """);
        Script.run("promise 24: by the first calibration of all, made later than day 0", CHAIN + """
                pass(20) -> 20
                calibrate(2, 0, 3) -> 0
                pass(75) -> 95
                measure(2, 20, 22) -> 0
                measurement(0, 5) -> 5
                again(0) -> 2
                measure(2, 20, 21) -> 1
                again(1) -> 1
                set(2, 1, 8) -> 4
                pass(25) -> 120
                measure(2, 20, 22) -> 2
                measurement(2, 5) -> 10
                again(0) -> 1
                """);
        Script.run("promise 24: a later calibration of the same day judges, an earlier one if it is recalled", CALIBRATED + """
                pass(10) -> 10
                calibrate(2, 0, 3) -> 2
                measure(2, 20, 30) -> 0
                calibrate(2, 0, 300) -> 3
                again(0) -> 0
                recall(2, 10, 10) -> 0
                again(0) -> 2
                account(10) -> 8
                """);
    }

    private static void certificates() {
        Script.run("promise 25: a certificate for the current calibration", CALIBRATED + """
                calibrate(2, 0, -7) -> 2
                pass(4) -> 4
                issue(2) -> 0
                certificate(0, 0) -> 2
                certificate(0, 1) -> 4
                certificate(0, 2) -> 0
                issue(1) -> 1
                certificate(1, 0) -> 0
                account(8) -> 70
                item(1, 10) -> 25
                """);
        Script.run("promise 25: reasons in their order", CALIBRATED + """
                issue(3) -> throws IndexOutOfBoundsException
                issue(-1) -> throws IndexOutOfBoundsException
                issue(0) -> throws UnsupportedOperationException
                refusal(true) -> 3
                refusal(false) -> -1
                20 x issue(2)
                issue(2) -> throws UnsupportedOperationException
                refusal(true) -> 9
                set(2, 0, 4) -> 90
                issue(2) -> throws UnsupportedOperationException
                refusal(true) -> 8
                pass(101) -> 101
                issue(2) -> throws UnsupportedOperationException
                refusal(true) -> 4
                recall(2, 0, 0) -> 0
                issue(2) -> throws UnsupportedOperationException
                refusal(true) -> 3
                account(5) -> 20
                """);
        Script.run("promise 26: states of a certificate", CALIBRATED + """
                issue(2) -> 0
                issue(2) -> 1
                account(6) -> 2
                pass(100) -> 100
                certificate(0, 2) -> 0
                pass(1) -> 101
                certificate(0, 2) -> 1
                account(6) -> 0
                recall(1, 0, 0) -> 0
                certificate(0, 2) -> 2
                lift(0) -> 0
                set(2, 3, 101) -> 100
                certificate(0, 2) -> 0
                certificate(1, 1) -> 0
                certificate(2, 9) -> throws IndexOutOfBoundsException
                certificate(-1, 0) -> throws IndexOutOfBoundsException
                certificate(0, -1) -> throws IllegalArgumentException
                certificate(0, 3) -> throws IllegalArgumentException
                """);
        Script.run("promise 27: a certificate is written with its chain", """
                addItem(0, 0, 9, 0) -> 0
                addItem(1, 0, 90, 0) -> 1
                addItem(1, 0, 90, 0) -> 2
                9 x addItem(1, 1, 5, 5)
                addItem(2, 0, 900, 0) -> 12
                calibrate(1, 0, 0) -> 0
                calibrate(2, 1, 0) -> 1
                pass(99) -> 99
                part(0, 30) -> 900
                calibrate(12, 2, -7) -> 2
                issue(12) -> 0
                issue(1) -> 1
                write(0) -> 25
                text -> N0 I12 D99 O-7 U31 S2<1<0
                write(1) -> 17
                text -> N1 I1 D0 O0 U1 S0
                write(2) -> throws IndexOutOfBoundsException
                write(-1) -> throws IndexOutOfBoundsException
                text -> N1 I1 D0 O0 U1 S0
                """);
        Script.run("promise 27: the longest chain", """
                addItem(0, 0, 9, 0) -> 0
                addItem(1, 0, 90, 0) -> 1
                addItem(1, 0, 90, 0) -> 2
                calibrate(1, 0, 0) -> 0
                """ + "calibrate(2, 1, 0)\ncalibrate(1, 2, 0)\n".repeat(29) + """
                calibrate(2, 1, -999) -> 59
                calibration(59, 11) -> 60
                calibration(0, 12) -> 59
                chain(59, 59) -> 0
                alongChain(59) -> 1
                reach(1, 0, 0) -> 60
                recall(0, 0, 0) -> 0
                cause(59) -> 0
                account(2) -> 0
                lift(0) -> 0
                account(2) -> 60
                set(2, 0, 999) -> 90
                issue(2) -> throws UnsupportedOperationException
                issue(1) -> 0
                write(0) -> 133
                """);
        Script.run("promise 28: written characters", CALIBRATED + """
                written(0) -> throws NoSuchElementException
                issue(2) -> 0
                written(0) -> throws NoSuchElementException
                write(0) -> 19
                written(0) -> N
                written(1) -> 0
                written(2) ->\s\s
                written(3) -> I
                written(17) -> <
                written(18) -> 0
                written(19) -> throws NoSuchElementException
                written(-1) -> throws NoSuchElementException
                undo() -> 5
                account(5) -> 0
                text -> N0 I2 D0 O3 U1 S1<0
                write(0) -> throws IndexOutOfBoundsException
                text -> N0 I2 D0 O3 U1 S1<0
                """);
    }

    private static void dueDays() {
        Script.run("promise 29: the earliest due day first, then the lowest number", """
                due(0) -> throws NoSuchElementException
                due(-1) -> throws NoSuchElementException
                addItem(2, 0, 90, 0) -> 0
                addItem(0, 0, 9, 0) -> 1
                addItem(1, 0, 90, 0) -> 2
                addItem(1, 0, 90, 0) -> 3
                due(-1) -> throws NoSuchElementException
                calibrate(3, 1, 0) -> 0
                calibrate(0, 1, 0) -> 1
                due(0) -> 0
                due(1) -> 3
                due(2) -> throws NoSuchElementException
                due(-1) -> throws NoSuchElementException
                set(0, 3, 101) -> 100
                due(0) -> 3
                due(1) -> 0
                pass(1) -> 1
                calibrate(2, 1, 0) -> 2
                due(0) -> 3
                due(1) -> 0
                due(2) -> 2
                due(3) -> throws NoSuchElementException
                recall(3, 0, 0) -> 0
                due(0) -> 0
                due(2) -> throws NoSuchElementException
                """);
        Script.run("promise 29: an item is due on day 0", """
                addItem(2, 0, 1, 0) -> 0
                addItem(0, 0, 9, 0) -> 1
                addItem(2, 0, 1, 0) -> 2
                calibrate(0, 1, 0) -> 0
                calibrate(2, 1, 0) -> 1
                set(2, 2, 1) -> 0
                item(2, 8) -> 0
                item(2, 9) -> 1
                due(0) -> 2
                due(1) -> 0
                set(0, 2, 1) -> 0
                due(0) -> 0
                due(1) -> 2
                overdueWithin(0) -> 0
                overdueWithin(1) -> 2
                """);
        Script.run("promise 30: overdueWithin", CALIBRATED + """
                overdueWithin(-1) -> throws IllegalArgumentException
                overdueWithin(10000) -> throws IllegalArgumentException
                overdueWithin(0) -> 0
                overdueWithin(100) -> 0
                overdueWithin(101) -> 2
                overdueWithin(9999) -> 2
                set(1, 3, 50) -> 100
                overdueWithin(51) -> 1
                pass(51) -> 51
                overdueWithin(0) -> 1
                overdueWithin(49) -> 1
                overdueWithin(50) -> 2
                recall(0, 0, 0) -> 0
                overdueWithin(9999) -> 0
                """);
    }

    private static void texts() {
        Script.run("promise 31: the input holds 80 characters", """
                80 x append('x') -> done
                append('x') -> throws IllegalStateException
                read() -> throws IllegalArgumentException
                faultPosition() -> 0
                80 x append('p') -> done
                append('p') -> throws IllegalStateException
                account(10) -> 0
                """);
        Script.run("promise 31: any character can be appended", "append('\u20ac') -> done\nappend('\0') -> done\n"
                + "read() -> throws IllegalArgumentException\nfaultPosition() -> 0\n"
                + "type pass 5\nappend('\u0665') -> done\nread() -> throws IllegalArgumentException\nfaultPosition() -> 6\n");
        Script.run("promise 32: each command does what its call does", CHAIN + """
                type part 1 4;cal 1 0 -5;pass 12;cal 2 1 7;measure 2 -9 100;cert 2;recall 1 3 9999
                read() -> 7
                account(10) -> 4
                calibration(0, 4) -> -5
                calibration(0, 5) -> 6
                calibration(1, 4) -> 7
                calibration(1, 3) -> 12
                today() -> 12
                measurement(0, 3) -> -9
                measurement(0, 4) -> 100
                certificate(0, 0) -> 1
                recalled(0, 0) -> 1
                recalled(0, 1) -> 3
                recalled(0, 2) -> 9999
                account(8) -> 49
                faultPosition() -> -1
                type lift 0
                read() -> 1
                account(7) -> 0
                undo() -> 4
                account(7) -> 1
                undo() -> 3
                account(1) -> 0
                account(3) -> 0
                account(5) -> 0
                account(7) -> 0
                today() -> 0
                """);
        for (String[] pair : COMMANDS_AND_CALLS) {
            List<String> first = new ArrayList<>();
            for (String line : (CALIBRATED + "recall(1, 3, 4) -> 0\npart(0, 3) -> 9\npass(1) -> 1").split("\n")) {
                first.add(line.substring(0, line.indexOf(" -> ")));
            }
            List<String> byText = new ArrayList<>(first);
            byText.addAll(List.of("type " + pair[0], "read()"));
            first.add(pair[1]);
            Script.count(Watch.state(byText).equals(Watch.state(first)), "promise 32: what a command does",
                    pair[0] + " does something else than " + pair[1]);
        }
        Script.run("promise 32: the input is empty afterwards", """
                type pass 5
                read() -> 1
                read() -> throws IllegalArgumentException
                faultPosition() -> 0
                type pass 5x
                read() -> throws IllegalArgumentException
                type pass 0
                read() -> throws UnsupportedOperationException
                type pass 7
                read() -> 1
                today() -> 12
                account(10) -> 2
                """);
        Script.run("promise 32: 11 commands in a text, and the longest text", CHAIN + """
                type pass 1;pass 1;pass 1;pass 1;pass 1;pass 1;pass 1;pass 1;pass 1;pass 1;pass 999
                read() -> 11
                today() -> 1009
                type pass 1;pass 1;pass 1;pass 1;pass 1;pass 1;pass 1;pass 1;pass 1;pass 1;pass 1000
                read() -> throws UnsupportedOperationException
                refusal(false) -> 10
                today() -> 1009
                """);
        Script.run("promise 32: minus signs and zeros", CHAIN + """
                type cal 1 0 -0;cal 2 1 -999;measure 2 -9999 9999;measure 2 -0 0;measure 2 0 0
                read() -> 5
                calibration(0, 4) -> 0
                calibration(1, 4) -> -999
                measurement(0, 3) -> -9999
                measurement(1, 3) -> 0
                """);
    }

    private static void textFaults() {
        String[][] faults = {
            {"", "0"}, {"x", "0"}, {" ", "0"}, {";", "0"}, {"P", "0"}, {"p", "1"}, {"pa", "2"}, {"pas", "3"}, {"pass", "4"},
            {"pass ", "5"}, {"pax", "2"}, {"parS", "3"}, {"passs", "4"}, {"c", "1"}, {"cx", "1"}, {"ca", "2"}, {"ce", "2"},
            {"cel", "2"}, {"cerx", "3"}, {"re", "2"}, {"recal", "5"}, {"recall", "6"}, {"recalls", "6"}, {"lifo", "3"},
            {"mesure", "2"}, {"measur", "6"}, {"pass  1", "5"}, {"pass 1 ", "6"}, {"pass 1;", "7"}, {"pass 1;;", "7"},
            {"pass 1; pass 1", "7"}, {"pass -1", "5"}, {"pass 01", "6"}, {"pass 00", "6"}, {"pass 12345", "9"},
            {"pass 1x", "6"}, {"pass x", "5"}, {"pass 1 2", "6"}, {"part 1", "6"}, {"part 1 ", "7"}, {"part 1;", "6"},
            {"part -1 2", "5"}, {"part 1 -2", "7"}, {"part 1 2 3", "8"}, {"cal 1 0", "7"}, {"cal 1 0 ", "8"},
            {"cal 1 0 -", "9"}, {"cal 1 0 --1", "9"}, {"cal 1 0 -01", "10"}, {"cal 1 0 -10000", "13"}, {"cal 1 0 -x", "9"},
            {"cal 1 -0 1", "6"}, {"cal -1 0 1", "4"}, {"cal 1 0 1-", "9"}, {"recall 1 -2 3", "9"}, {"recall 1 2 -3", "11"},
            {"recall -1 2 3", "7"}, {"lift -0", "5"}, {"lift", "4"}, {"measure 1 -", "11"}, {"measure 1 -5 -6", "13"},
            {"measure -1 5 6", "8"}, {"measure 1 5", "11"}, {"cert -1", "5"}, {"cert 1 1", "6"}, {"pass 1;pas 1", "10"},
            {"pass 1;cal 1 0 09", "16"}, {"pass 1 ;", "6"}, {"pass\t1", "4"}, {"pass 1:pass 1", "6"}, {"pass +1", "5"},
        };
        for (String[] fault : faults) {
            Script.run("promise 33: the fault of \"" + fault[0] + "\"", "addItem(0, 0, 9, 0) -> 0\ntype " + fault[0]
                    + "\nread() -> throws IllegalArgumentException\nfaultPosition() -> " + fault[1]
                    + "\nfaultPosition() -> " + fault[1] + "\ntoday() -> 0\naccount(10) -> 1\nrefusal(true) -> throws NoSuchElementException\n");
        }
        String full = "pass 1;".repeat(11);
        Script.run("promise 33: a text of 80 characters that ends too early", "type " + full + "pas\n"
                + "read() -> throws IllegalArgumentException\nfaultPosition() -> 80\ntoday() -> 0\n");
        Script.run("promise 33: the latest call of read alone counts", """
                faultPosition() -> -1
                type pax
                faultPosition() -> -1
                read() -> throws IllegalArgumentException
                faultPosition() -> 2
                type pass 3
                faultPosition() -> 2
                read() -> 1
                faultPosition() -> -1
                type p
                read() -> throws IllegalArgumentException
                faultPosition() -> 1
                undo() -> 0
                save() -> done
                restore() -> done
                faultPosition() -> 1
                type pass 0
                read() -> throws UnsupportedOperationException
                faultPosition() -> -1
                """);
    }

    private static void textRefusals() {
        Script.run("promise 32: all commands or none", CALIBRATED + """
                part(0, 2) -> 4
                recall(1, 7, 8) -> 0
                type pass 5;part 0 3;cal 1 0 9;lift 0;measure 2 1 1;cert 2;recall 2 0 0;cal 2 2 0
                read() -> throws UnsupportedOperationException
                refusal(true) -> 1
                refusal(false) -> 7
                today() -> 0
                account(1) -> 2
                account(3) -> 0
                account(5) -> 0
                account(7) -> 1
                account(8) -> 40
                account(9) -> 1
                account(10) -> 7
                recalled(0, 1) -> 7
                square(-1) -> 4
                calibration(1, 10) -> 1
                undo() -> 6
                account(7) -> 0
                """);
        Script.run("promise 32: a refused text forgets no change", """
                8 x pass(1)
                type pass 5;pass 0
                read() -> throws UnsupportedOperationException
                account(10) -> 8
                undo() -> 7
                today() -> 7
                7 x undo()
                today() -> 0
                undo() -> throws IllegalStateException
                """);
        String[][] refused = {
            {"cal 1 9 0", "10"}, {"cal 9 0 0", "10"}, {"cal 1 0 1000", "10"}, {"cal 0 0 1000", "10"}, {"cal 0 0 0", "1"},
            {"cal 3 0 0", "2"}, {"part 4 1", "10"}, {"part 0 1000", "10"}, {"pass 0", "10"}, {"pass 1000", "10"},
            {"recall 9 0 0", "10"}, {"recall 0 5 4", "10"}, {"lift 0", "10"}, {"lift 9999", "10"}, {"measure 9 0 0", "10"},
            {"measure 1 0 0", "6"}, {"measure 3 0 0", "3"}, {"cert 9", "10"}, {"cert 0", "3"}, {"cert 16", "10"},
            {"pass 101;measure 2 0 0", "4"}, {"pass 101;cert 2", "4"}, {"pass 101;cal 2 1 0", "4"}, {"cal 2 1 300;cert 2", "8"},
            {"recall 1 0 0;cal 2 1 0", "3"}, {"part 0 1;part 0 1;part 0 1;part 0 1;part 0 1;part 0 1;part 0 1", "10"},
            {"recall 0 9 9;lift 0;lift 0", "10"},
        };
        for (String[] text : refused) {
            int number = text[0].split(";").length - 1;
            Script.run("promise 34: the refusal of \"" + text[0] + "\"", CALIBRATED + "addItem(2, 1, 90, 0) -> 3\ntype " + text[0]
                    + "\nread() -> throws UnsupportedOperationException\nrefusal(true) -> " + text[1] + "\nrefusal(false) -> " + number
                    + "\nfaultPosition() -> -1\naccount(10) -> 6\ntoday() -> 0\naccount(1) -> 2\n");
        }
        Script.run("promise 32: texts are refused beyond the limits too", CALIBRATED + """
                8 x recall(0, 9, 9)
                type recall 0 9 9
                read() -> throws UnsupportedOperationException
                refusal(true) -> 10
                10 x pass(990)
                type pass 100
                read() -> throws UnsupportedOperationException
                refusal(true) -> 10
                type pass 99
                read() -> 1
                today() -> 9999
                """);
        Script.run("promise 34: the latest refusal is kept", CALIBRATED + """
                refusal(true) -> throws NoSuchElementException
                refusal(false) -> throws NoSuchElementException
                type pass 1;cert 0
                read() -> throws UnsupportedOperationException
                refusal(true) -> 3
                refusal(false) -> 1
                pass(1) -> 1
                calibrate(1, 1, 0) -> throws UnsupportedOperationException
                refusal(true) -> 1
                refusal(false) -> -1
                calibrate(1, 9, 0) -> throws IndexOutOfBoundsException
                type pass
                read() -> throws IllegalArgumentException
                type pass 1
                read() -> 1
                undo() -> 6
                save() -> done
                restore() -> done
                refusal(true) -> 1
                refusal(false) -> -1
                """);
    }

    private static void accounts() {
        Script.run("promise 35: each account", CALIBRATED + """
                part(0, 2) -> 4
                measure(2, 0, 0) -> 0
                calibrate(2, 0, 0) -> 2
                measure(2, 0, 0) -> 1
                issue(2) -> 0
                issue(1) -> 1
                part(0, 2) -> 4
                part(0, 2) -> 4
                recall(1, 0, 0) -> 0
                account(0) -> 3
                account(1) -> 3
                account(2) -> 1
                account(3) -> 2
                account(4) -> 1
                account(5) -> 2
                account(6) -> 1
                account(7) -> 1
                account(8) -> 75
                account(9) -> 2
                account(10) -> 8
                account(-1) -> throws IllegalArgumentException
                account(11) -> throws IllegalArgumentException
                """);
        Script.run("promise 36: the share of the good calibrations", CALIBRATED + """
                goodShare() -> 1.0
                calibrate(2, 0, 0) -> 2
                recall(1, 0, 0) -> 0
                goodShare() -> 0.3333333333333333
                recall(0, 0, 0) -> 1
                goodShare() -> 0.0
                """);
        Script.run("promise 36: one calibration", CHAIN + "calibrate(2, 0, 0) -> 0\ngoodShare() -> 1.0\n");
        Script.run("promise 36: without calibrations", CHAIN + "goodShare() -> throws ArithmeticException\n");
    }

    private static void history() {
        Script.run("promise 37: each change is undone, the latest first", CHAIN + """
                set(1, 0, 50) -> 90
                pass(5) -> 5
                part(0, 3) -> 9
                calibrate(1, 0, 4) -> 0
                calibrate(2, 0, 3) -> 1
                measure(2, 1, 1) -> 0
                issue(2) -> 0
                recall(0, 5, 5) -> 0
                account(10) -> 8
                undo() -> 7
                account(7) -> 0
                calibration(0, 10) -> 1
                undo() -> 6
                account(5) -> 0
                item(2, 10) -> 21
                undo() -> 5
                account(3) -> 0
                undo() -> 4
                account(1) -> 1
                undo() -> 3
                account(1) -> 0
                square(-1) -> 9
                undo() -> 2
                square(-1) -> 0
                undo() -> 1
                today() -> 0
                undo() -> 0
                item(1, 2) -> 90
                undo() -> throws IllegalStateException
                account(0) -> 3
                """);
        Script.run("promise 37: lift, clearParts and read are changes, also if nothing is different", CALIBRATED + """
                recall(2, 0, 0) -> 0
                recall(1, 0, 0) -> 1
                lift(0) -> 1
                undo() -> 7
                recalled(1, 0) -> 1
                recalled(0, 0) -> 2
                part(0, 1) -> 1
                clearParts() -> 1
                undo() -> 7
                square(-1) -> 1
                clearParts() -> 1
                clearParts() -> 0
                undo() -> 7
                account(9) -> 0
                undo() -> 6
                account(9) -> 1
                set(1, 0, 90) -> 90
                undo() -> 6
                type pass 5;pass 6
                read() -> 2
                account(10) -> 7
                undo() -> 6
                today() -> 0
                """);
        Script.run("promise 37: what was undone leaves nothing behind", CHAIN + """
                addItem(2, 0, 7, 7) -> 3
                set(3, 2, 3) -> 0
                calibrate(3, 0, 5) -> 0
                recall(3, 0, 0) -> 0
                4 x undo()
                account(0) -> 3
                addItem(2, 0, 900, 7) -> 3
                item(3, 4) -> 0
                item(3, 10) -> 0
                item(3, 7) -> -1
                calibrate(3, 0, 5) -> 0
                calibration(0, 10) -> 1
                """);
        Script.run("promise 37: older changes are forgotten, and new ones follow undone ones", """
                12 x pass(1)
                account(10) -> 8
                3 x undo()
                account(10) -> 5
                today() -> 9
                pass(10) -> 19
                undo() -> 5
                5 x undo()
                today() -> 4
                undo() -> throws IllegalStateException
                """);
        Script.run("promise 37: calls that throw or only ask are no changes", CALIBRATED + """
                account(10) -> 5
                pass(0) -> throws IllegalArgumentException
                calibrate(1, 1, 1) -> throws UnsupportedOperationException
                wouldRefuse(1, 0) -> 0
                append('x') -> done
                read() -> throws IllegalArgumentException
                save() -> done
                issue(1) -> 0
                write(0) -> 17
                account(10) -> 6
                undo() -> 5
                refusal(true) -> 1
                faultPosition() -> 0
                written(0) -> N
                """);
        Script.run("promise 37: the input stays when a change is undone", """
                pass(3) -> 3
                type pass
                undo() -> 0
                save() -> done
                restore() -> done
                type\s\s5
                read() -> 1
                today() -> 5
                """);
    }

    private static void snapshots() {
        Script.run("promise 38: a snapshot in place of an earlier one", CALIBRATED + """
                save() -> done
                pass(5) -> 5
                save() -> done
                pass(5) -> 10
                restore() -> done
                today() -> 5
                pass(1) -> 6
                restore() -> done
                today() -> 5
                """);
        Script.run("promise 39: everything but what the document leaves out", CALIBRATED + """
                recall(2, 0, 0) -> 0
                recall(2, 5, 9) -> 1
                issue(1) -> 0
                part(0, 3) -> 9
                part(0, 4) -> 16
                save() -> done
                lift(0) -> 1
                clearParts() -> 2
                part(0, 1) -> 1
                set(1, 1, 77) -> 10
                set(2, 2, 3) -> 0
                pass(9) -> 9
                calibrate(2, 0, 8) -> 2
                measure(2, 0, 0) -> 0
                measure(1, 0, 0) -> throws UnsupportedOperationException
                issue(1) -> 1
                write(1) -> 17
                type pax
                read() -> throws IllegalArgumentException
                addItem(0, 0, 1, 1) -> 3
                restore() -> done
                account(0) -> 3
                account(1) -> 2
                account(2) -> 1
                account(3) -> 0
                account(5) -> 1
                account(7) -> 2
                account(8) -> 45
                account(9) -> 2
                account(10) -> 0
                square(1) -> 16
                today() -> 0
                item(1, 3) -> 10
                item(2, 4) -> 0
                recalled(0, 2) -> 0
                recalled(1, 2) -> 9
                undo() -> throws IllegalStateException
                refusal(true) -> 6
                faultPosition() -> 2
                text -> N1 I1 D0 O0 U1 S0
                pass(1) -> 1
                undo() -> 0
                today() -> 0
                """);
        Script.run("promise 39: undoing leaves the snapshot", """
                pass(1) -> 1
                save() -> done
                pass(1) -> 2
                2 x undo()
                today() -> 0
                restore() -> done
                today() -> 1
                restore() -> done
                account(10) -> 0
                """);
        Script.run("promise 39: without a snapshot", """
                pass(1) -> 1
                restore() -> throws IllegalStateException
                today() -> 1
                account(10) -> 1
                """);
    }

    private static void limits() {
        StringBuilder wide = new StringBuilder();
        String[] calls = {"item(%d, 0)", "set(%d, 0, 5)", "calibrate(%d, 0, 0)", "calibrate(0, %d, 0)", "wouldRefuse(%d, 0)",
            "wouldRefuse(0, %d)", "best(%d)", "calibration(%d, 0)", "variance(%d, true)", "alongChain(%d)", "chain(%d, 0)",
            "cause(%d)", "recall(%d, 0, 0)", "lift(%d)", "recalled(%d, 0)", "reach(%d, 0, 0)", "measure(%d, 0, 0)",
            "measurement(%d, 0)", "again(%d)", "issue(%d)", "certificate(%d, 0)", "write(%d)", "addItem(%d, 0, 1, 1)",
            "addItem(0, %d, 1, 1)", "part(%d, 0)"};
        for (String call : calls) {
            wide.append(String.format(call, Integer.MAX_VALUE)).append(" -> throws IndexOutOfBoundsException\n");
            wide.append(String.format(call, Integer.MIN_VALUE)).append(" -> throws IndexOutOfBoundsException\n");
        }
        String[] numbers = {"set(0, 0, %d)", "set(0, %d, 0)", "item(0, %d)", "pass(%d)", "part(0, %d)", "calibrate(0, 0, %d)",
            "calibration(0, %d)", "recall(0, %d, 9999)", "recall(0, 0, %d)", "recalled(0, %d)", "reach(0, %d, 9999)",
            "reach(0, 0, %d)", "measure(0, %d, 0)", "measure(0, 0, %d)", "measurement(0, %d)", "certificate(0, %d)",
            "overdueWithin(%d)", "account(%d)", "addItem(0, 0, %d, 1)", "addItem(0, 0, 1, %d)"};
        for (String call : numbers) {
            wide.append(String.format(call, Integer.MAX_VALUE)).append(" -> throws IllegalArgumentException\n");
            wide.append(String.format(call, Integer.MIN_VALUE)).append(" -> throws IllegalArgumentException\n");
        }
        for (String call : new String[] {"square(%d)", "chain(0, %d)", "written(%d)", "due(%d)"}) {
            wide.append(String.format(call, Integer.MAX_VALUE)).append(" -> throws NoSuchElementException\n");
            wide.append(String.format(call, Integer.MIN_VALUE)).append(" -> throws NoSuchElementException\n");
        }
        Script.run("the widest numbers", CALIBRATED + "recall(0, 9, 9) -> 0\nmeasure(2, 0, 0) -> 0\nissue(2) -> 0\n" + wide);
    }
}
