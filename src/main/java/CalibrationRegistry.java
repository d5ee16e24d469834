import java.util.NoSuchElementException;

/** A registry of calibrations; ../shared/DOC.md says what each call does, answers and throws. */
public final class CalibrationRegistry {
    private static final int LAST_DAY = 9999;
    private static final int MOST_ITEMS = 16;
    private static final int MOST_PARTS = 6;
    private static final int MOST_CALIBRATIONS = 60;
    private static final int MOST_RECALLS = 8;
    private static final int MOST_MEASUREMENTS = 40;
    private static final int MOST_CERTIFICATES = 20;
    private static final int MOST_CHANGES = 8;
    private static final int MOST_CHARACTERS = 80;
    private static final int LONGEST_PASS = 999;
    private static final int LONGEST_INTERVAL = 999;
    private static final int GREATEST_AMOUNT = 999;
    private static final int GREATEST_OFFSET = 999;
    private static final int GREATEST_VALUE = 9999;

    private static final int PRIMARY = 0;
    private static final int INSTRUMENT = 2;

    // The columns that the document numbers have its numbers, so that a call can ask for them by "what".
    private static final int ITEM_KIND = 0;
    private static final int ITEM_QUANTITY = 1;
    private static final int ITEM_TOLERANCE = 2;
    private static final int ITEM_DRIFT = 3;
    private static final int ITEM_RULE = 4;
    private static final int ITEM_BASE = 5;
    private static final int ITEM_COST = 6;
    private static final int ITEM_COLUMNS = 7;

    private static final int PART_SQUARE = 0;
    private static final int PART_COLUMNS = 1;

    private static final int CAL_ITEM = 0;
    private static final int CAL_STANDARD = 1;
    private static final int CAL_SOURCE = 2;
    private static final int CAL_DAY = 3;
    private static final int CAL_OFFSET = 4;
    private static final int CAL_OWN = 5;
    private static final int CAL_UNCERTAINTY = 6;
    private static final int CAL_GROWTH = 7;
    private static final int CAL_VARIANCE = 8;
    private static final int CAL_BASE_SQUARE = 9;
    private static final int CAL_NEED = 10;
    private static final int CAL_DOUBTFUL = 11;
    private static final int CAL_COLUMNS = 12;

    private static final int RECALL_ITEM = 0;
    private static final int RECALL_FIRST = 1;
    private static final int RECALL_LAST = 2;
    private static final int RECALL_COLUMNS = 3;

    private static final int MEASURE_ITEM = 0;
    private static final int MEASURE_CALIBRATION = 1;
    private static final int MEASURE_DAY = 2;
    private static final int MEASURE_VALUE = 3;
    private static final int MEASURE_LIMIT = 4;
    private static final int MEASURE_ALLOWANCE = 5;
    private static final int MEASURE_VERDICT = 6;
    private static final int MEASURE_COLUMNS = 7;

    private static final int CERT_CALIBRATION = 0;
    private static final int CERT_DAY = 1;
    private static final int CERT_COLUMNS = 2;

    private static final int WORD_PART = 0;
    private static final int WORD_CAL = 1;
    private static final int WORD_PASS = 2;
    private static final int WORD_RECALL = 3;
    private static final int WORD_LIFT = 4;
    private static final int WORD_MEASURE = 5;
    private static final int WORD_CERT = 6;
    private static final int WORDS = 7;

    private static final int NO_REASON = 0;
    private static final int REASON_PAIR = 1;
    private static final int REASON_QUANTITY = 2;
    private static final int REASON_NOT_CALIBRATED = 3;
    private static final int REASON_OVERDUE = 4;
    private static final int REASON_CALIBRATIONS_FULL = 5;
    private static final int REASON_NO_INSTRUMENT = 6;
    private static final int REASON_MEASUREMENTS_FULL = 7;
    private static final int REASON_TOLERANCE = 8;
    private static final int REASON_CERTIFICATES_FULL = 9;
    private static final int REASON_OTHER = 10;

    private static final int NO_FAULT = 0;
    private static final int FAULT_INDEX = 1;
    private static final int FAULT_ARGUMENT = 2;
    private static final int FAULT_STATE = 3;

    private final State state;
    private final Doubts doubts;
    private final Intervals intervals;
    private final Reasons reasons;
    private final Actions actions;
    private final Past past = new Past();
    private final Text text = new Text();
    private final StringBuilder writing = new StringBuilder();
    private final int[] dueDays = new int[MOST_ITEMS];
    private State snapshot = null;
    private int faultAt = -1;
    private int refusedReason = NO_REASON;
    private int refusedCommand = -1;

    public CalibrationRegistry() {
        State present = new State();
        Doubts presentDoubts = new Doubts(present);
        Intervals presentIntervals = new Intervals(present, presentDoubts);
        state = present;
        doubts = presentDoubts;
        intervals = presentIntervals;
        reasons = new Reasons(present, presentDoubts, presentIntervals);
        actions = new Actions(present, presentDoubts);
    }

    public int addItem(int kind, int quantity, int tolerance, int drift)
            throws IndexOutOfBoundsException, IllegalArgumentException, IllegalStateException {
        raise(actions.faultOfItem(kind, quantity, tolerance, drift));
        past.remember(state);
        return actions.makeItem(kind, quantity, tolerance, drift);
    }

    public int set(int item, int what, int value) throws IndexOutOfBoundsException, IllegalArgumentException {
        requireRow(state.items, item);
        if (!isSettable(what, value)) {
            throw new IllegalArgumentException("there is no such number to set, or the value is out of range");
        }
        past.remember(state);
        int column = ITEM_TOLERANCE + what;
        int previous = state.items.get(item, column);
        state.items.put(item, column, value);
        return previous;
    }

    public int item(int item, int what) throws IndexOutOfBoundsException, IllegalArgumentException {
        requireRow(state.items, item);
        requireWhat(what, 10);
        if (what <= ITEM_BASE) {
            return state.items.get(item, what);
        }
        if (what == 6) {
            return state.calibrations.count(CAL_ITEM, item);
        }
        if (what == 10) {
            return state.items.get(item, ITEM_COST);
        }
        int current = doubts.current(item);
        if (what == 7) {
            return current;
        }
        if (what == 8) {
            return current < 0 ? -1 : intervals.dueDay(current);
        }
        if (current < 0) {
            return 0;
        }
        return intervals.isOverdue(current) ? 2 : 1;
    }

    public int pass(int days) throws IllegalArgumentException, IllegalStateException {
        raise(actions.faultOfPass(days));
        past.remember(state);
        state.day += days;
        return state.day;
    }

    public int today() {
        return state.day;
    }

    public int part(int kind, int amount)
            throws IndexOutOfBoundsException, IllegalArgumentException, IllegalStateException {
        raise(actions.faultOfPart(kind, amount));
        past.remember(state);
        return actions.makePart(kind, amount);
    }

    public int square(int index) throws NoSuchElementException {
        if (index == -1) {
            return state.parts.sum(PART_SQUARE);
        }
        if (!state.parts.has(index)) {
            throw new NoSuchElementException("there is no such part");
        }
        return state.parts.get(index, PART_SQUARE);
    }

    public int clearParts() {
        past.remember(state);
        int removed = state.parts.size();
        state.parts.clear();
        return removed;
    }

    public int calibrate(int item, int standard, int offset)
            throws IndexOutOfBoundsException, IllegalArgumentException, UnsupportedOperationException {
        raise(actions.faultOfCalibration(item, standard, offset));
        requireReasonless(reasons.ofCalibration(item, standard));
        past.remember(state);
        return actions.makeCalibration(item, standard, offset);
    }

    public int wouldRefuse(int item, int standard) throws IndexOutOfBoundsException {
        requireRow(state.items, item);
        requireRow(state.items, standard);
        return reasons.ofCalibration(item, standard);
    }

    public int best(int item) throws IndexOutOfBoundsException, NoSuchElementException {
        requireRow(state.items, item);
        int found = -1;
        int least = 0;
        for (int standard = 0; standard < state.items.size(); standard++) {
            if (reasons.ofCalibration(item, standard) == NO_REASON) {
                int inherited = actions.inheritedVariance(standard);
                if (found < 0 || inherited < least) {
                    found = standard;
                    least = inherited;
                }
            }
        }
        if (found < 0) {
            throw new NoSuchElementException("a calibration would be refused with each standard");
        }
        return found;
    }

    public int calibration(int calibration, int what) throws IndexOutOfBoundsException, IllegalArgumentException {
        requireRow(state.calibrations, calibration);
        requireWhat(what, 12);
        if (what <= CAL_UNCERTAINTY) {
            return state.calibrations.get(calibration, what);
        }
        switch (what) {
            case 7:
                return intervals.lengthOf(calibration);
            case 8:
                return intervals.dueDay(calibration);
            case 9:
                return intervals.isInTolerance(calibration) ? 1 : 0;
            case 10:
                return doubts.isGood(calibration) ? 1 : 0;
            case 11:
                return chainLength(calibration);
            default:
                return doubts.countDependents(calibration);
        }
    }

    public long variance(int calibration, boolean isGrowth) throws IndexOutOfBoundsException {
        requireRow(state.calibrations, calibration);
        return state.calibrations.get(calibration, isGrowth ? CAL_GROWTH : CAL_VARIANCE);
    }

    public long alongChain(int calibration) throws IndexOutOfBoundsException {
        requireRow(state.calibrations, calibration);
        Table calibrations = state.calibrations;
        long sum = 0;
        int link = calibration;
        for (int steps = 0; steps < MOST_CALIBRATIONS && link >= 0; steps++) {
            sum += calibrations.get(link, CAL_OWN);
            sum += calibrations.get(link, CAL_GROWTH);
            sum += calibrations.get(link, CAL_BASE_SQUARE);
            link = calibrations.get(link, CAL_SOURCE);
        }
        return sum;
    }

    public int chain(int calibration, int index) throws IndexOutOfBoundsException, NoSuchElementException {
        requireRow(state.calibrations, calibration);
        int link = index < 0 ? -1 : calibration;
        for (int steps = 0; steps < index && link >= 0; steps++) {
            link = state.calibrations.get(link, CAL_SOURCE);
        }
        if (link < 0) {
            throw new NoSuchElementException("the chain has no such index");
        }
        return link;
    }

    public int cause(int calibration) throws IndexOutOfBoundsException, NoSuchElementException {
        requireRow(state.calibrations, calibration);
        int found = doubts.lastCovered(calibration);
        if (found < 0) {
            throw new NoSuchElementException("the calibration is good");
        }
        return found;
    }

    public int recall(int item, int first, int last)
            throws IndexOutOfBoundsException, IllegalArgumentException, IllegalStateException {
        raise(actions.faultOfRecall(item, first, last));
        past.remember(state);
        return actions.makeRecall(item, first, last);
    }

    public int lift(int recall) throws IndexOutOfBoundsException {
        requireRow(state.recalls, recall);
        past.remember(state);
        return actions.liftRecall(recall);
    }

    public int recalled(int recall, int what) throws IndexOutOfBoundsException, IllegalArgumentException {
        requireRow(state.recalls, recall);
        requireWhat(what, 3);
        return what <= RECALL_LAST ? state.recalls.get(recall, what) : doubts.countCovered(recall);
    }

    public int reach(int item, int first, int last) throws IndexOutOfBoundsException, IllegalArgumentException {
        requireRow(state.items, item);
        if (!areDays(first, last)) {
            throw new IllegalArgumentException("a day is out of range");
        }
        return doubts.countReached(item, first, last);
    }

    public int measure(int item, int value, int limit)
            throws IndexOutOfBoundsException, IllegalArgumentException, UnsupportedOperationException {
        raise(actions.faultOfMeasurement(item, value, limit));
        requireReasonless(reasons.ofMeasurement(item));
        past.remember(state);
        return actions.makeMeasurement(item, value, limit);
    }

    public int measurement(int measurement, int what) throws IndexOutOfBoundsException, IllegalArgumentException {
        requireRow(state.measurements, measurement);
        requireWhat(what, 7);
        if (what <= MEASURE_VERDICT) {
            return state.measurements.get(measurement, what);
        }
        return isDoubtfulMeasurement(measurement) ? 1 : 0;
    }

    public int again(int measurement) throws IndexOutOfBoundsException, NoSuchElementException {
        requireRow(state.measurements, measurement);
        int item = state.measurements.get(measurement, MEASURE_ITEM);
        int day = state.measurements.get(measurement, MEASURE_DAY);
        int calibration = doubts.latestGood(item, state.calibrations.size(), day);
        if (calibration < 0) {
            throw new NoSuchElementException("there is no calibration by which it can be judged");
        }
        int value = state.measurements.get(measurement, MEASURE_VALUE);
        int limit = state.measurements.get(measurement, MEASURE_LIMIT);
        return actions.verdict(calibration, value, limit, actions.allowance(calibration, day));
    }

    public int issue(int item) throws IndexOutOfBoundsException, UnsupportedOperationException {
        requireRow(state.items, item);
        requireReasonless(reasons.ofCertificate(item));
        past.remember(state);
        return actions.makeCertificate(item);
    }

    public int certificate(int certificate, int what) throws IndexOutOfBoundsException, IllegalArgumentException {
        requireRow(state.certificates, certificate);
        requireWhat(what, 2);
        return what <= CERT_DAY ? state.certificates.get(certificate, what) : certificateState(certificate);
    }

    public int write(int certificate) throws IndexOutOfBoundsException {
        requireRow(state.certificates, certificate);
        int calibration = state.certificates.get(certificate, CERT_CALIBRATION);
        writing.setLength(0);
        writing.append('N').append(certificate);
        writing.append(" I").append(state.calibrations.get(calibration, CAL_ITEM));
        writing.append(" D").append(state.calibrations.get(calibration, CAL_DAY));
        writing.append(" O").append(state.calibrations.get(calibration, CAL_OFFSET));
        writing.append(" U").append(state.calibrations.get(calibration, CAL_UNCERTAINTY));
        writing.append(" S");
        writeStandards(calibration);
        return writing.length();
    }

    public char written(int index) throws NoSuchElementException {
        if (index < 0 || index >= writing.length()) {
            throw new NoSuchElementException("there is no such character");
        }
        return writing.charAt(index);
    }

    public int due(int place) throws NoSuchElementException {
        findDueDays();
        for (int item = 0; item < state.items.size(); item++) {
            if (place >= 0 && placeByDueDay(item) == place) {
                return item;
            }
        }
        throw new NoSuchElementException("there is no such place");
    }

    public int overdueWithin(int days) throws IllegalArgumentException {
        if (!isWithin(days, 0, LAST_DAY)) {
            throw new IllegalArgumentException("the number of days is out of range");
        }
        int overdue = 0;
        for (int item = 0; item < state.items.size(); item++) {
            int current = doubts.current(item);
            if (current >= 0 && state.day + days > intervals.dueDay(current)) {
                overdue++;
            }
        }
        return overdue;
    }

    public void append(char c) throws IllegalStateException {
        if (text.isFull()) {
            throw new IllegalStateException("the input has 80 characters");
        }
        text.add(c);
    }

    public int read() throws IllegalArgumentException, UnsupportedOperationException {
        faultAt = text.parse();
        text.clear();
        if (faultAt >= 0) {
            throw new IllegalArgumentException("the text has a fault");
        }
        past.begin(state);
        int commands = text.commandCount();
        for (int command = 0; command < commands; command++) {
            int a = text.number(command, 0);
            int b = text.number(command, 1);
            int c = text.number(command, 2);
            int word = text.word(command);
            int reason = reasonAgainst(word, a, b, c);
            if (reason != NO_REASON) {
                past.rollBack(state);
                keepRefusal(reason, command);
                throw new UnsupportedOperationException("a command is refused");
            }
            actions.carryOut(word, a, b, c);
        }
        past.commit();
        return commands;
    }

    public int faultPosition() {
        return faultAt;
    }

    public int refusal(boolean isReason) throws NoSuchElementException {
        if (refusedReason == NO_REASON) {
            throw new NoSuchElementException("nothing was refused");
        }
        return isReason ? refusedReason : refusedCommand;
    }

    public long account(int what) throws IllegalArgumentException {
        requireWhat(what, 10);
        switch (what) {
            case 0:
                return state.items.size();
            case 1:
                return state.calibrations.size();
            case 2:
                return state.calibrations.count(CAL_DOUBTFUL, 0);
            case 3:
                return state.measurements.size();
            case 4:
                return countDoubtfulMeasurements();
            case 5:
                return state.certificates.size();
            case 6:
                return countValidCertificates();
            case 7:
                return state.recalls.size();
            case 8:
                return state.items.sum(ITEM_COST);
            case 9:
                return state.parts.size();
            default:
                return past.count();
        }
    }

    public double goodShare() throws ArithmeticException {
        int all = state.calibrations.size();
        if (all <= 0) {
            throw new ArithmeticException("there are no calibrations");
        }
        return (double) state.calibrations.count(CAL_DOUBTFUL, 0) / (double) all;
    }

    public int undo() throws IllegalStateException {
        if (past.count() <= 0) {
            throw new IllegalStateException("no change can be undone");
        }
        past.stepBack(state);
        return past.count();
    }

    public void save() {
        if (snapshot == null) {
            snapshot = new State();
        }
        snapshot.copyFrom(state);
    }

    public void restore() throws IllegalStateException {
        if (snapshot == null) {
            throw new IllegalStateException("there is no snapshot");
        }
        state.copyFrom(snapshot);
        past.forget();
    }

    private static boolean isWithin(int number, int least, int greatest) {
        return number >= least && number <= greatest;
    }

    private static boolean areDays(int first, int last) {
        return first >= 0 && last >= first && last <= LAST_DAY;
    }

    /** Whether a number of an item can be set to a value: 0 tolerance, 1 drift, 2 rule, 3 base. */
    private static boolean isSettable(int what, int value) {
        switch (what) {
            case 0:
                return value >= 1 && value <= 999;
            case 1:
                return value >= 0 && value <= 99;
            case 2:
                return value >= 0 && value <= 3;
            case 3:
                return value >= 1 && value <= 999;
            default:
                return false;
        }
    }

    private static int dividedUp(int number, int divisor) {
        return divisor <= 0 ? 0 : (number + divisor - 1) / divisor;
    }

    private static void raise(int fault) {
        if (fault == FAULT_INDEX) {
            throw new IndexOutOfBoundsException("there is no such item, kind or quantity");
        }
        if (fault == FAULT_ARGUMENT) {
            throw new IllegalArgumentException("a number is out of range");
        }
        if (fault == FAULT_STATE) {
            throw new IllegalStateException("there is no room for more");
        }
    }

    private static void requireRow(Table table, int row) {
        if (!table.has(row)) {
            throw new IndexOutOfBoundsException("there is no such number");
        }
    }

    private static void requireWhat(int what, int greatest) {
        if (what < 0 || what > greatest) {
            throw new IllegalArgumentException("there is no such what");
        }
    }

    private void requireReasonless(int reason) {
        if (reason != NO_REASON) {
            keepRefusal(reason, -1);
            throw new UnsupportedOperationException("it is refused");
        }
    }

    private void keepRefusal(int reason, int command) {
        refusedReason = reason;
        refusedCommand = command;
    }

    private int chainLength(int calibration) {
        int length = 0;
        int link = calibration;
        while (length < MOST_CALIBRATIONS && link >= 0) {
            link = state.calibrations.get(link, CAL_SOURCE);
            length++;
        }
        return length;
    }

    private boolean isDoubtfulMeasurement(int measurement) {
        return !doubts.isGood(state.measurements.get(measurement, MEASURE_CALIBRATION));
    }

    private int countDoubtfulMeasurements() {
        int doubtful = 0;
        for (int measurement = 0; measurement < state.measurements.size(); measurement++) {
            if (isDoubtfulMeasurement(measurement)) {
                doubtful++;
            }
        }
        return doubtful;
    }

    private int certificateState(int certificate) {
        int calibration = state.certificates.get(certificate, CERT_CALIBRATION);
        if (!doubts.isGood(calibration)) {
            return 2;
        }
        return intervals.isOverdue(calibration) ? 1 : 0;
    }

    private int countValidCertificates() {
        int valid = 0;
        for (int certificate = 0; certificate < state.certificates.size(); certificate++) {
            if (certificateState(certificate) == 0) {
                valid++;
            }
        }
        return valid;
    }

    private void writeStandards(int calibration) {
        int link = calibration;
        for (int steps = 0; steps < MOST_CALIBRATIONS && link >= 0; steps++) {
            if (steps > 0) {
                writing.append('<');
            }
            writing.append(state.calibrations.get(link, CAL_STANDARD));
            link = state.calibrations.get(link, CAL_SOURCE);
        }
    }

    private void findDueDays() {
        for (int item = 0; item < dueDays.length; item++) {
            int current = doubts.current(item);
            dueDays[item] = current < 0 ? -1 : intervals.dueDay(current);
        }
    }

    /** The place of an item in the order of the due days that were found last, or -1 if it has none. */
    private int placeByDueDay(int item) {
        if (item < 0 || item >= dueDays.length || dueDays[item] < 0) {
            return -1;
        }
        int place = 0;
        for (int other = 0; other < dueDays.length; other++) {
            boolean isEarlier = dueDays[other] < dueDays[item] || dueDays[other] == dueDays[item] && other < item;
            if (dueDays[other] >= 0 && isEarlier) {
                place++;
            }
        }
        return place;
    }

    /** The reason for which a command of a text would be refused now, or 0. */
    private int reasonAgainst(int word, int a, int b, int c) {
        if (actions.faultOf(word, a, b, c) != NO_FAULT) {
            return REASON_OTHER;
        }
        switch (word) {
            case WORD_CAL:
                return reasons.ofCalibration(a, b);
            case WORD_MEASURE:
                return reasons.ofMeasurement(a);
            case WORD_CERT:
                return reasons.ofCertificate(a);
            default:
                return NO_REASON;
        }
    }

    /**
     * Rows of whole numbers, as many as the document keeps at the most. A cell that is not there answers 0 and takes
     * nothing, so that no index can make the machine throw.
     */
    private static final class Table {
        private final int limit;
        private final int columns;
        private final int[] cells;
        private int rows = 0;

        Table(int limit, int columns) {
            this.limit = limit;
            this.columns = columns;
            this.cells = new int[Math.max(0, limit * columns)];
        }

        int size() {
            return rows;
        }

        boolean has(int row) {
            return row >= 0 && row < rows;
        }

        boolean isFull() {
            return rows >= limit;
        }

        int get(int row, int column) {
            int cell = row * columns + column;
            boolean isThere = row >= 0 && row < rows && column >= 0 && column < columns;
            return isThere && cell >= 0 && cell < cells.length ? cells[cell] : 0;
        }

        void put(int row, int column, int number) {
            int cell = row * columns + column;
            boolean isThere = row >= 0 && row < rows && column >= 0 && column < columns;
            if (isThere && cell >= 0 && cell < cells.length) {
                cells[cell] = number;
            }
        }

        /** Adds a row of zeros and answers its number, or -1 if there is no room. */
        int add() {
            if (rows >= limit) {
                return -1;
            }
            rows++;
            for (int column = 0; column < columns; column++) {
                put(rows - 1, column, 0);
            }
            return rows - 1;
        }

        void remove(int row) {
            if (row < 0 || row >= rows) {
                return;
            }
            for (int later = row + 1; later < rows; later++) {
                for (int column = 0; column < columns; column++) {
                    put(later - 1, column, get(later, column));
                }
            }
            rows--;
        }

        void clear() {
            rows = 0;
        }

        int sum(int column) {
            int sum = 0;
            for (int row = 0; row < rows; row++) {
                sum += get(row, column);
            }
            return sum;
        }

        int count(int column, int number) {
            int found = 0;
            for (int row = 0; row < rows; row++) {
                if (get(row, column) == number) {
                    found++;
                }
            }
            return found;
        }

        void copyFrom(Table other) {
            int used = Math.min(other.rows * other.columns, Math.min(cells.length, other.cells.length));
            if (used > 0) {
                System.arraycopy(other.cells, 0, cells, 0, used);
            }
            rows = other.rows;
        }
    }

    /** All that a snapshot contains. */
    private static final class State {
        private final Table items = new Table(MOST_ITEMS, ITEM_COLUMNS);
        private final Table parts = new Table(MOST_PARTS, PART_COLUMNS);
        private final Table calibrations = new Table(MOST_CALIBRATIONS, CAL_COLUMNS);
        private final Table recalls = new Table(MOST_RECALLS, RECALL_COLUMNS);
        private final Table measurements = new Table(MOST_MEASUREMENTS, MEASURE_COLUMNS);
        private final Table certificates = new Table(MOST_CERTIFICATES, CERT_COLUMNS);
        private int day = 0;

        void copyFrom(State other) {
            items.copyFrom(other.items);
            parts.copyFrom(other.parts);
            calibrations.copyFrom(other.calibrations);
            recalls.copyFrom(other.recalls);
            measurements.copyFrom(other.measurements);
            certificates.copyFrom(other.certificates);
            day = other.day;
        }
    }

    /** The states before the latest changes, in a ring with one place more, for a change that may yet be refused. */
    private static final class Past {
        private final State[] states = new State[MOST_CHANGES + 1];
        private int next = 0;
        private int changes = 0;

        int count() {
            return changes;
        }

        /** Keeps a state in the free place; the places are filled when they are first used, to take less room. */
        void begin(State present) {
            if (next < 0 || next >= states.length) {
                return;
            }
            State free = states[next];
            if (free == null) {
                free = new State();
                states[next] = free;
            }
            free.copyFrom(present);
        }

        void commit() {
            next = next >= MOST_CHANGES ? 0 : next + 1;
            changes = Math.min(changes + 1, MOST_CHANGES);
        }

        void remember(State present) {
            begin(present);
            commit();
        }

        void rollBack(State present) {
            State begun = next >= 0 && next < states.length ? states[next] : null;
            if (begun != null) {
                present.copyFrom(begun);
            }
        }

        void stepBack(State present) {
            if (changes > 0) {
                next = next <= 0 ? MOST_CHANGES : next - 1;
                changes--;
                rollBack(present);
            }
        }

        void forget() {
            changes = 0;
        }
    }

    /** Which calibrations are good, by the recalls that are in force. */
    private static final class Doubts {
        private final State state;
        private final boolean[] isReached = new boolean[MOST_CALIBRATIONS];

        Doubts(State state) {
            this.state = state;
        }

        boolean isGood(int calibration) {
            return state.calibrations.get(calibration, CAL_DOUBTFUL) == 0;
        }

        int current(int item) {
            return latestGood(item, state.calibrations.size(), LAST_DAY);
        }

        /** The latest good calibration of an item with a number below the given one, made by a day, or -1. */
        int latestGood(int item, int below, int lastDay) {
            Table calibrations = state.calibrations;
            for (int calibration = below - 1; calibration >= 0; calibration--) {
                if (calibrations.get(calibration, CAL_ITEM) == item
                        && calibrations.get(calibration, CAL_DOUBTFUL) == 0
                        && calibrations.get(calibration, CAL_DAY) <= lastDay) {
                    return calibration;
                }
            }
            return -1;
        }

        /** Marks every calibration anew; due whenever a calibration is made or the recalls in force change. */
        void renew() {
            Table calibrations = state.calibrations;
            // A source has a lower number than what depends on it, so its mark is new before it is asked for.
            for (int calibration = 0; calibration < calibrations.size(); calibration++) {
                int source = calibrations.get(calibration, CAL_SOURCE);
                boolean isByChain = source >= 0 && calibrations.get(source, CAL_DOUBTFUL) != 0;
                calibrations.put(calibration, CAL_DOUBTFUL, isByChain || isCovered(calibration) ? 1 : 0);
            }
        }

        int countCovered(int recall) {
            int item = state.recalls.get(recall, RECALL_ITEM);
            int first = state.recalls.get(recall, RECALL_FIRST);
            int last = state.recalls.get(recall, RECALL_LAST);
            int covered = 0;
            for (int calibration = 0; calibration < state.calibrations.size(); calibration++) {
                if (covers(item, first, last, calibration)) {
                    covered++;
                }
            }
            return covered;
        }

        /** The covered calibration of a chain that has the greatest index there, or -1. */
        int lastCovered(int calibration) {
            int found = -1;
            int link = calibration;
            for (int steps = 0; steps < MOST_CALIBRATIONS && link >= 0; steps++) {
                if (isCovered(link)) {
                    found = link;
                }
                link = state.calibrations.get(link, CAL_SOURCE);
            }
            return found;
        }

        /** How many good calibrations a recall would make doubtful. */
        int countReached(int item, int first, int last) {
            int lost = 0;
            int size = Math.min(isReached.length, state.calibrations.size());
            for (int calibration = 0; calibration < size; calibration++) {
                int source = state.calibrations.get(calibration, CAL_SOURCE);
                boolean isByChain = source >= 0 && source < isReached.length && isReached[source];
                isReached[calibration] = isByChain || covers(item, first, last, calibration);
                if (isReached[calibration] && isGood(calibration)) {
                    lost++;
                }
            }
            return lost;
        }

        /** How many other calibrations have the given one in their chains. */
        int countDependents(int calibration) {
            int dependents = 0;
            int size = Math.min(isReached.length, state.calibrations.size());
            for (int other = 0; other < size; other++) {
                int source = state.calibrations.get(other, CAL_SOURCE);
                boolean isByChain = source >= 0 && source < isReached.length && isReached[source];
                isReached[other] = isByChain || source == calibration;
                if (isReached[other]) {
                    dependents++;
                }
            }
            return dependents;
        }

        private boolean isCovered(int calibration) {
            Table recalls = state.recalls;
            for (int recall = 0; recall < recalls.size(); recall++) {
                int item = recalls.get(recall, RECALL_ITEM);
                int first = recalls.get(recall, RECALL_FIRST);
                if (covers(item, first, recalls.get(recall, RECALL_LAST), calibration)) {
                    return true;
                }
            }
            return false;
        }

        private boolean covers(int item, int first, int last, int calibration) {
            int day = state.calibrations.get(calibration, CAL_DAY);
            if (day < first || day > last) {
                return false;
            }
            if (state.calibrations.get(calibration, CAL_ITEM) == item) {
                return true;
            }
            boolean isPrimary = state.items.get(item, ITEM_KIND) == PRIMARY;
            return isPrimary && state.calibrations.get(calibration, CAL_STANDARD) == item;
        }
    }

    /** How long calibrations last, by the numbers that their items have now. */
    private static final class Intervals {
        private final State state;
        private final Doubts doubts;

        Intervals(State state, Doubts doubts) {
            this.state = state;
            this.doubts = doubts;
        }

        boolean isInTolerance(int calibration) {
            int item = state.calibrations.get(calibration, CAL_ITEM);
            return state.calibrations.get(calibration, CAL_NEED) <= state.items.get(item, ITEM_TOLERANCE);
        }

        boolean isOverdue(int calibration) {
            return state.day > state.calibrations.get(calibration, CAL_DAY) + lengthOf(calibration);
        }

        int dueDay(int calibration) {
            return state.calibrations.get(calibration, CAL_DAY) + lengthOf(calibration);
        }

        int lengthOf(int calibration) {
            int item = state.calibrations.get(calibration, CAL_ITEM);
            int rule = state.items.get(item, ITEM_RULE);
            if (rule == 0) {
                return state.items.get(item, ITEM_BASE);
            }
            if (rule == 3) {
                return steppedLength(calibration, item);
            }
            int rate = state.items.get(item, ITEM_DRIFT);
            if (rule == 2) {
                int earlier = doubts.latestGood(item, calibration, LAST_DAY);
                rate = earlier < 0 ? rate : rateBetween(earlier, calibration);
            }
            int room = state.items.get(item, ITEM_TOLERANCE) - state.calibrations.get(calibration, CAL_NEED);
            return daysWithin(room, rate);
        }

        /** The greatest n up to 999 for which rate times n, divided by 100 and rounded up, is at most the room. */
        private static int daysWithin(int room, int rate) {
            if (room < 0) {
                return 0;
            }
            return rate <= 0 ? LONGEST_INTERVAL : Math.min(LONGEST_INTERVAL, room * 100 / rate);
        }

        private int rateBetween(int earlier, int later) {
            Table calibrations = state.calibrations;
            int days = calibrations.get(later, CAL_DAY) - calibrations.get(earlier, CAL_DAY);
            int change = calibrations.get(later, CAL_OFFSET) - calibrations.get(earlier, CAL_OFFSET);
            return dividedUp(Math.abs(change) * 100, Math.max(1, days));
        }

        private int steppedLength(int calibration, int item) {
            Table calibrations = state.calibrations;
            int tolerance = state.items.get(item, ITEM_TOLERANCE);
            int length = state.items.get(item, ITEM_BASE);
            for (int each = 0; each <= calibration; each++) {
                boolean isOfItem = calibrations.get(each, CAL_ITEM) == item;
                if (isOfItem && calibrations.get(each, CAL_DOUBTFUL) == 0 || each == calibration) {
                    boolean isIn = calibrations.get(each, CAL_NEED) <= tolerance;
                    length = isIn ? Math.min(LONGEST_INTERVAL, length * 2) : Math.max(1, length / 2);
                }
            }
            return length;
        }
    }

    /** The reasons for which something is refused, each time the first that applies. */
    private static final class Reasons {
        private final State state;
        private final Doubts doubts;
        private final Intervals intervals;

        Reasons(State state, Doubts doubts, Intervals intervals) {
            this.state = state;
            this.doubts = doubts;
            this.intervals = intervals;
        }

        int ofCalibration(int item, int standard) {
            Table items = state.items;
            int kind = items.get(standard, ITEM_KIND);
            if (items.get(item, ITEM_KIND) == PRIMARY || kind == INSTRUMENT || item == standard) {
                return REASON_PAIR;
            }
            if (items.get(item, ITEM_QUANTITY) != items.get(standard, ITEM_QUANTITY)) {
                return REASON_QUANTITY;
            }
            if (kind != PRIMARY) {
                int source = doubts.current(standard);
                if (source < 0) {
                    return REASON_NOT_CALIBRATED;
                }
                if (intervals.isOverdue(source)) {
                    return REASON_OVERDUE;
                }
            }
            return state.calibrations.isFull() ? REASON_CALIBRATIONS_FULL : NO_REASON;
        }

        int ofMeasurement(int item) {
            if (state.items.get(item, ITEM_KIND) != INSTRUMENT) {
                return REASON_NO_INSTRUMENT;
            }
            int current = doubts.current(item);
            if (current < 0) {
                return REASON_NOT_CALIBRATED;
            }
            if (intervals.isOverdue(current)) {
                return REASON_OVERDUE;
            }
            return state.measurements.isFull() ? REASON_MEASUREMENTS_FULL : NO_REASON;
        }

        int ofCertificate(int item) {
            int current = doubts.current(item);
            if (current < 0) {
                return REASON_NOT_CALIBRATED;
            }
            if (intervals.isOverdue(current)) {
                return REASON_OVERDUE;
            }
            if (!intervals.isInTolerance(current)) {
                return REASON_TOLERANCE;
            }
            return state.certificates.isFull() ? REASON_CERTIFICATES_FULL : NO_REASON;
        }
    }

    /**
     * What calls and commands do alike: each has a check, which answers the fault of its arguments, and a deed, which
     * is done after the check alone.
     */
    private static final class Actions {
        private final State state;
        private final Doubts doubts;

        Actions(State state, Doubts doubts) {
            this.state = state;
            this.doubts = doubts;
        }

        int faultOf(int word, int a, int b, int c) {
            switch (word) {
                case WORD_PART:
                    return faultOfPart(a, b);
                case WORD_CAL:
                    return faultOfCalibration(a, b, c);
                case WORD_PASS:
                    return faultOfPass(a);
                case WORD_RECALL:
                    return faultOfRecall(a, b, c);
                case WORD_LIFT:
                    return state.recalls.has(a) ? NO_FAULT : FAULT_INDEX;
                case WORD_MEASURE:
                    return faultOfMeasurement(a, b, c);
                default:
                    return state.items.has(a) ? NO_FAULT : FAULT_INDEX;
            }
        }

        void carryOut(int word, int a, int b, int c) {
            switch (word) {
                case WORD_PART:
                    makePart(a, b);
                    break;
                case WORD_CAL:
                    makeCalibration(a, b, c);
                    break;
                case WORD_PASS:
                    state.day += a;
                    break;
                case WORD_RECALL:
                    makeRecall(a, b, c);
                    break;
                case WORD_LIFT:
                    liftRecall(a);
                    break;
                case WORD_MEASURE:
                    makeMeasurement(a, b, c);
                    break;
                default:
                    makeCertificate(a);
                    break;
            }
        }

        int faultOfItem(int kind, int quantity, int tolerance, int drift) {
            if (!isWithin(kind, 0, 2) || !isWithin(quantity, 0, 3)) {
                return FAULT_INDEX;
            }
            if (!isSettable(0, tolerance) || !isSettable(1, drift)) {
                return FAULT_ARGUMENT;
            }
            return state.items.isFull() ? FAULT_STATE : NO_FAULT;
        }

        int makeItem(int kind, int quantity, int tolerance, int drift) {
            int item = state.items.add();
            state.items.put(item, ITEM_KIND, kind);
            state.items.put(item, ITEM_QUANTITY, quantity);
            state.items.put(item, ITEM_TOLERANCE, tolerance);
            state.items.put(item, ITEM_DRIFT, drift);
            state.items.put(item, ITEM_BASE, kind == PRIMARY ? 1 : 100);
            return item;
        }

        int faultOfPass(int days) {
            if (!isWithin(days, 1, LONGEST_PASS)) {
                return FAULT_ARGUMENT;
            }
            return state.day + days > LAST_DAY ? FAULT_STATE : NO_FAULT;
        }

        int faultOfPart(int kind, int amount) {
            if (!isWithin(kind, 0, 3)) {
                return FAULT_INDEX;
            }
            if (!isWithin(amount, 0, GREATEST_AMOUNT)) {
                return FAULT_ARGUMENT;
            }
            return state.parts.isFull() ? FAULT_STATE : NO_FAULT;
        }

        int makePart(int kind, int amount) {
            int square = dividedUp(amount * amount, partDivisor(kind));
            state.parts.put(state.parts.add(), PART_SQUARE, square);
            return square;
        }

        int faultOfCalibration(int item, int standard, int offset) {
            if (!state.items.has(item) || !state.items.has(standard)) {
                return FAULT_INDEX;
            }
            return isWithin(offset, -GREATEST_OFFSET, GREATEST_OFFSET) ? NO_FAULT : FAULT_ARGUMENT;
        }

        int makeCalibration(int item, int standard, int offset) {
            Table made = state.calibrations;
            boolean isFirst = state.items.get(standard, ITEM_KIND) == PRIMARY;
            int source = isFirst ? -1 : doubts.current(standard);
            int base = isFirst ? state.items.get(standard, ITEM_BASE) : 0;
            int own = state.parts.sum(PART_SQUARE);
            int growth = isFirst ? 0 : growthSince(source, standard);
            // 60 calibrations add at most 6 * 999 * 999 + 990 * 990 each: the variance stays far below 46340 * 46340.
            int variance = own + inheritedVariance(standard);
            int uncertainty = rootUp(variance);
            int cost = 20 + 3 * state.parts.size();
            int calibration = made.add();
            made.put(calibration, CAL_ITEM, item);
            made.put(calibration, CAL_STANDARD, standard);
            made.put(calibration, CAL_SOURCE, source);
            made.put(calibration, CAL_DAY, state.day);
            made.put(calibration, CAL_OFFSET, offset);
            made.put(calibration, CAL_OWN, own);
            made.put(calibration, CAL_UNCERTAINTY, uncertainty);
            made.put(calibration, CAL_GROWTH, growth);
            made.put(calibration, CAL_VARIANCE, variance);
            made.put(calibration, CAL_BASE_SQUARE, base * base);
            made.put(calibration, CAL_NEED, Math.abs(offset) + 2 * uncertainty);
            state.parts.clear();
            charge(item, cost);
            doubts.renew();
            return calibration;
        }

        /** What a calibration made now with a standard would add to its own square. */
        int inheritedVariance(int standard) {
            if (state.items.get(standard, ITEM_KIND) == PRIMARY) {
                int base = state.items.get(standard, ITEM_BASE);
                return base * base;
            }
            int source = doubts.current(standard);
            return growthSince(source, standard) + state.calibrations.get(source, CAL_VARIANCE);
        }

        int faultOfRecall(int item, int first, int last) {
            if (!state.items.has(item)) {
                return FAULT_INDEX;
            }
            if (!areDays(first, last)) {
                return FAULT_ARGUMENT;
            }
            return state.recalls.isFull() ? FAULT_STATE : NO_FAULT;
        }

        int makeRecall(int item, int first, int last) {
            int recall = state.recalls.add();
            state.recalls.put(recall, RECALL_ITEM, item);
            state.recalls.put(recall, RECALL_FIRST, first);
            state.recalls.put(recall, RECALL_LAST, last);
            doubts.renew();
            return recall;
        }

        int liftRecall(int recall) {
            state.recalls.remove(recall);
            doubts.renew();
            return state.recalls.size();
        }

        int faultOfMeasurement(int item, int value, int limit) {
            if (!state.items.has(item)) {
                return FAULT_INDEX;
            }
            boolean isInRange = isWithin(value, -GREATEST_VALUE, GREATEST_VALUE) && isWithin(limit, 0, GREATEST_VALUE);
            return isInRange ? NO_FAULT : FAULT_ARGUMENT;
        }

        int makeMeasurement(int item, int value, int limit) {
            Table made = state.measurements;
            int calibration = doubts.current(item);
            int allowance = allowance(calibration, state.day);
            int measurement = made.add();
            made.put(measurement, MEASURE_ITEM, item);
            made.put(measurement, MEASURE_CALIBRATION, calibration);
            made.put(measurement, MEASURE_DAY, state.day);
            made.put(measurement, MEASURE_VALUE, value);
            made.put(measurement, MEASURE_LIMIT, limit);
            made.put(measurement, MEASURE_ALLOWANCE, allowance);
            made.put(measurement, MEASURE_VERDICT, verdict(calibration, value, limit, allowance));
            charge(item, 1);
            return measurement;
        }

        int makeCertificate(int item) {
            int calibration = doubts.current(item);
            int certificate = state.certificates.add();
            state.certificates.put(certificate, CERT_CALIBRATION, calibration);
            state.certificates.put(certificate, CERT_DAY, state.day);
            charge(item, 5);
            return certificate;
        }

        /** The allowance by a calibration on a day, with the drift that the instrument has now. */
        int allowance(int calibration, int day) {
            int item = state.calibrations.get(calibration, CAL_ITEM);
            int days = day - state.calibrations.get(calibration, CAL_DAY);
            int drifted = dividedUp(state.items.get(item, ITEM_DRIFT) * days, 100);
            return 2 * state.calibrations.get(calibration, CAL_UNCERTAINTY) + drifted;
        }

        int verdict(int calibration, int value, int limit, int allowance) {
            int distance = Math.abs(value - state.calibrations.get(calibration, CAL_OFFSET));
            if (distance + allowance <= limit) {
                return 2;
            }
            return distance - allowance > limit ? 0 : 1;
        }

        private int growthSince(int source, int standard) {
            int days = state.day - state.calibrations.get(source, CAL_DAY);
            int grown = dividedUp(state.items.get(standard, ITEM_DRIFT) * days, 100);
            return grown * grown;
        }

        private void charge(int item, int cost) {
            state.items.put(item, ITEM_COST, state.items.get(item, ITEM_COST) + cost);
        }

        private static int partDivisor(int kind) {
            switch (kind) {
                case 0:
                    return 1;
                case 1:
                    return 3;
                case 2:
                    return 6;
                default:
                    return 2;
            }
        }

        /** The least whole number whose square is at least the given one. */
        private static int rootUp(int square) {
            int low = 0;
            int high = 46340;
            for (int halvings = 0; halvings < 16 && low < high; halvings++) {
                int middle = (low + high) / 2;
                if (middle * middle >= square) {
                    high = middle;
                } else {
                    low = middle + 1;
                }
            }
            return low;
        }
    }

    /** The input, and the commands of the text that was parsed last. */
    private static final class Text {
        private static final int MOST_NUMBERS = 3;
        // The shortest command, such as "lift 0", has 6 characters and a ";" before the next.
        private static final int MOST_COMMANDS = MOST_CHARACTERS / 6;

        private final char[] input = new char[MOST_CHARACTERS];
        private final Table commands = new Table(MOST_COMMANDS, 1 + MOST_NUMBERS);
        private int length = 0;
        private int at = 0;

        boolean isFull() {
            return length >= input.length;
        }

        void add(char c) {
            if (length >= 0 && length < input.length) {
                input[length] = c;
                length++;
            }
        }

        void clear() {
            length = 0;
        }

        int commandCount() {
            return commands.size();
        }

        int word(int command) {
            return commands.get(command, 0);
        }

        int number(int command, int index) {
            return commands.get(command, 1 + index);
        }

        /** Finds the commands of the input and answers the fault position, or -1. */
        int parse() {
            commands.clear();
            at = 0;
            boolean isSound = parseCommand();
            for (int steps = 0; steps < MOST_CHARACTERS && isSound && at < length; steps++) {
                isSound = parseSign(';') && parseCommand();
            }
            return isSound ? -1 : at;
        }

        /** Like the other parse methods, answers false if the sign where it stands then cannot be there. */
        private boolean parseCommand() {
            int word = parseWord();
            if (word < 0) {
                return false;
            }
            int command = commands.add();
            commands.put(command, 0, word);
            for (int index = 0; index < numbersOf(word); index++) {
                if (!parseSign(' ') || !parseNumber(command, index, isSigned(word, index))) {
                    return false;
                }
            }
            return true;
        }

        private boolean parseSign(char sign) {
            if (signAt(at) != sign) {
                return false;
            }
            at++;
            return true;
        }

        private boolean parseNumber(int command, int index, boolean mayBeNegative) {
            boolean isNegative = mayBeNegative && parseSign('-');
            if (!isDigitAt(at)) {
                return false;
            }
            int number = 0;
            // A 0 in front ends the number: a digit behind it is no sign that can be there.
            int most = signAt(at) == '0' ? 1 : 4;
            for (int digits = 0; digits < most && isDigitAt(at); digits++) {
                number = number * 10 + signAt(at) - '0';
                at++;
            }
            commands.put(command, 1 + index, isNegative ? -number : number);
            return true;
        }

        private int parseWord() {
            int start = at;
            for (int steps = 0; steps < MOST_CHARACTERS && at < length; steps++) {
                int word = wordThatBegins(start, at + 1);
                if (word < 0) {
                    return -1;
                }
                at++;
                if (lettersOf(word).length() == at - start) {
                    return word;
                }
            }
            return -1;
        }

        /** A word that begins with the input from start to end, end excluded, or -1. */
        private int wordThatBegins(int start, int end) {
            for (int word = 0; word < WORDS; word++) {
                String letters = lettersOf(word);
                int same = 0;
                while (start + same < end && same < letters.length() && letters.charAt(same) == signAt(start + same)) {
                    same++;
                }
                if (start + same == end) {
                    return word;
                }
            }
            return -1;
        }

        private boolean isDigitAt(int index) {
            int sign = signAt(index);
            return sign >= '0' && sign <= '9';
        }

        private int signAt(int index) {
            return index >= 0 && index < length && index < input.length ? input[index] : -1;
        }

        private static String lettersOf(int word) {
            switch (word) {
                case WORD_PART:
                    return "part";
                case WORD_CAL:
                    return "cal";
                case WORD_PASS:
                    return "pass";
                case WORD_RECALL:
                    return "recall";
                case WORD_LIFT:
                    return "lift";
                case WORD_MEASURE:
                    return "measure";
                default:
                    return "cert";
            }
        }

        private static int numbersOf(int word) {
            switch (word) {
                case WORD_CAL:
                case WORD_RECALL:
                case WORD_MEASURE:
                    return 3;
                case WORD_PART:
                    return 2;
                default:
                    return 1;
            }
        }

        /** An offset and a value alone may have a minus sign. */
        private static boolean isSigned(int word, int index) {
            return word == WORD_CAL && index == 2 || word == WORD_MEASURE && index == 1;
        }
    }
}
