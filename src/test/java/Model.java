import java.util.ArrayDeque;
import java.util.ArrayList;
import java.util.Deque;
import java.util.List;
import java.util.NoSuchElementException;
import java.util.regex.Matcher;
import java.util.regex.Pattern;

/**
 * The document once more, written as naively as it can be and with other means than the class: records in lists,
 * chains by recursion, greatest numbers by trying them all, texts by a regular expression, whole copies of the world
 * for undoing. RandomRuns compares the class with it.
 */
final class Model {
    record Calibration(int item, int standard, int source, int day, int offset, long own, long growth, long variance,
            long baseSquare) {
        int uncertainty() {
            int u = 0;
            while ((long) u * u < variance) {
                u++;
            }
            return u;
        }

        int need() {
            return Math.abs(offset) + 2 * uncertainty();
        }
    }

    record Recall(int item, int first, int last) {
    }

    record Measurement(int item, int calibration, int day, int value, int limit, int allowance, int verdict) {
    }

    record Certificate(int calibration, int day) {
    }

    private static final class World {
        int day = 0;
        List<int[]> items = new ArrayList<>();
        List<Integer> parts = new ArrayList<>();
        List<Calibration> calibrations = new ArrayList<>();
        List<Recall> recalls = new ArrayList<>();
        List<Measurement> measurements = new ArrayList<>();
        List<Certificate> certificates = new ArrayList<>();

        World copy() {
            World other = new World();
            other.day = day;
            for (int[] item : items) {
                other.items.add(item.clone());
            }
            other.parts.addAll(parts);
            other.calibrations.addAll(calibrations);
            other.recalls.addAll(recalls);
            other.measurements.addAll(measurements);
            other.certificates.addAll(certificates);
            return other;
        }
    }

    /** Thrown where the document says that something is refused. */
    private static final class Refused extends RuntimeException {
        private static final long serialVersionUID = 1L;
        final int reason;

        Refused(int reason) {
            this.reason = reason;
        }
    }

    private static final String N = "(?:0|[1-9][0-9]{0,3})";
    private static final String COMMAND = "(?:part N N|cal N N -?N|pass N|recall N N N|lift N|measure N -?N N|cert N)";
    private static final Pattern TEXT = Pattern.compile((COMMAND + "(?:;" + COMMAND + ")*").replace("N", N));
    private static final int[] DIVISORS = {1, 3, 6, 2};

    private World now = new World();
    private World saved = null;
    private final Deque<World> past = new ArrayDeque<>();
    private final StringBuilder input = new StringBuilder();
    private String writing = "";
    private int faultAt = -1;
    private int reason = 0;
    private int command = -1;

    private static void index(boolean isThere) {
        if (!isThere) {
            throw new IndexOutOfBoundsException();
        }
    }

    private static void argument(boolean isInRange) {
        if (!isInRange) {
            throw new IllegalArgumentException();
        }
    }

    private static void state(boolean isPossible) {
        if (!isPossible) {
            throw new IllegalStateException();
        }
    }

    private static void element(boolean isThere) {
        if (!isThere) {
            throw new NoSuchElementException();
        }
    }

    private static boolean in(long number, long least, long most) {
        return least <= number && number <= most;
    }

    private static long up(long number, long divisor) {
        return number / divisor + (number % divisor == 0 ? 0 : 1);
    }

    private void item(int item) {
        index(in(item, 0, now.items.size() - 1));
    }

    private void changing(World before) {
        past.addLast(before);
        if (past.size() > 8) {
            past.removeFirst();
        }
    }

    private interface Change {
        int make();
    }

    private int change(Change change) {
        World before = now.copy();
        try {
            int answer = change.make();
            changing(before);
            return answer;
        } catch (Refused refused) {
            reason = refused.reason;
            command = -1;
            throw new UnsupportedOperationException();
        }
    }

    int addItem(int kind, int quantity, int tolerance, int drift) {
        index(in(kind, 0, 2) && in(quantity, 0, 3));
        argument(in(tolerance, 1, 999) && in(drift, 0, 99));
        state(now.items.size() < 16);
        return change(() -> {
            now.items.add(new int[] {kind, quantity, tolerance, drift, 0, kind == 0 ? 1 : 100, 0});
            return now.items.size() - 1;
        });
    }

    int set(int item, int what, int value) {
        item(item);
        argument(in(what, 0, 3));
        argument(what == 0 || what == 3 ? in(value, 1, 999) : what == 1 ? in(value, 0, 99) : in(value, 0, 3));
        return change(() -> {
            int previous = now.items.get(item)[2 + what];
            now.items.get(item)[2 + what] = value;
            return previous;
        });
    }

    int item(int item, int what) {
        item(item);
        argument(in(what, 0, 10));
        int current = current(item);
        if (what <= 5) {
            return now.items.get(item)[what];
        }
        if (what == 6) {
            return (int) now.calibrations.stream().filter(c -> c.item() == item).count();
        }
        if (what == 7) {
            return current;
        }
        if (what == 8) {
            return current == -1 ? -1 : dueDay(current);
        }
        if (what == 9) {
            return current == -1 ? 0 : now.day > dueDay(current) ? 2 : 1;
        }
        return now.items.get(item)[6];
    }

    int pass(int days) {
        argument(in(days, 1, 999));
        state(now.day + days <= 9999);
        return change(() -> now.day += days);
    }

    int today() {
        return now.day;
    }

    int part(int kind, int amount) {
        index(in(kind, 0, 3));
        argument(in(amount, 0, 999));
        state(now.parts.size() < 6);
        return change(() -> {
            int square = (int) up((long) amount * amount, DIVISORS[kind]);
            now.parts.add(square);
            return square;
        });
    }

    int square(int index) {
        element(in(index, -1, now.parts.size() - 1));
        return index == -1 ? now.parts.stream().mapToInt(Integer::intValue).sum() : now.parts.get(index);
    }

    int clearParts() {
        return change(() -> {
            int size = now.parts.size();
            now.parts.clear();
            return size;
        });
    }

    private int kind(int item) {
        return now.items.get(item)[0];
    }

    private static boolean covers(World world, Recall recall, Calibration c) {
        boolean isPrimary = world.items.get(recall.item())[0] == 0;
        return in(c.day(), recall.first(), recall.last())
                && (c.item() == recall.item() || isPrimary && c.standard() == recall.item());
    }

    private boolean isCovered(int calibration) {
        return now.recalls.stream().anyMatch(r -> covers(now, r, now.calibrations.get(calibration)));
    }

    private boolean isDoubtful(int calibration) {
        return chainOf(calibration).stream().anyMatch(this::isCovered);
    }

    private List<Integer> chainOf(int calibration) {
        List<Integer> chain = new ArrayList<>();
        for (int link = calibration; link != -1; link = now.calibrations.get(link).source()) {
            chain.add(link);
        }
        return chain;
    }

    private List<Integer> goodOnes(int item) {
        List<Integer> good = new ArrayList<>();
        for (int c = 0; c < now.calibrations.size(); c++) {
            if (now.calibrations.get(c).item() == item && !isDoubtful(c)) {
                good.add(c);
            }
        }
        return good;
    }

    private int current(int item) {
        List<Integer> good = goodOnes(item);
        return good.isEmpty() ? -1 : good.get(good.size() - 1);
    }

    private int interval(int calibration) {
        Calibration c = now.calibrations.get(calibration);
        int[] item = now.items.get(c.item());
        List<Integer> before = goodOnes(c.item());
        before.removeIf(other -> other >= calibration);
        if (item[4] == 0) {
            return item[5];
        }
        if (item[4] == 3) {
            int length = item[5];
            before.add(calibration);
            for (int each : before) {
                length = now.calibrations.get(each).need() <= item[2] ? Math.min(999, 2 * length) : Math.max(1, length / 2);
            }
            return length;
        }
        long rate = item[3];
        if (item[4] == 2 && !before.isEmpty()) {
            Calibration earlier = now.calibrations.get(before.get(before.size() - 1));
            int days = c.day() - earlier.day();
            rate = up(Math.abs(c.offset() - earlier.offset()) * 100L, days == 0 ? 1 : days);
        }
        for (int n = 999; n >= 0; n--) {
            if (c.need() + up(rate * n, 100) <= item[2]) {
                return n;
            }
        }
        return 0;
    }

    private int dueDay(int calibration) {
        return now.calibrations.get(calibration).day() + interval(calibration);
    }

    private boolean isInTolerance(int calibration) {
        Calibration c = now.calibrations.get(calibration);
        return c.need() <= now.items.get(c.item())[2];
    }

    private int calibrationReason(int item, int standard) {
        if (kind(item) == 0 || kind(standard) == 2 || item == standard) {
            return 1;
        }
        if (now.items.get(item)[1] != now.items.get(standard)[1]) {
            return 2;
        }
        if (kind(standard) != 0 && current(standard) == -1) {
            return 3;
        }
        if (kind(standard) != 0 && now.day > dueDay(current(standard))) {
            return 4;
        }
        return now.calibrations.size() == 60 ? 5 : 0;
    }

    private Calibration made(int item, int standard, int offset) {
        long own = square(-1);
        if (kind(standard) == 0) {
            long base = now.items.get(standard)[5];
            return new Calibration(item, standard, -1, now.day, offset, own, 0, own + base * base, base * base);
        }
        int source = current(standard);
        long g = up((long) now.items.get(standard)[3] * (now.day - now.calibrations.get(source).day()), 100);
        long variance = own + g * g + now.calibrations.get(source).variance();
        return new Calibration(item, standard, source, now.day, offset, own, g * g, variance, 0);
    }

    private static void refuse(int reason) {
        if (reason != 0) {
            throw new Refused(reason);
        }
    }

    private int doCalibrate(int item, int standard, int offset) {
        item(item);
        item(standard);
        argument(in(offset, -999, 999));
        refuse(calibrationReason(item, standard));
        now.calibrations.add(made(item, standard, offset));
        now.items.get(item)[6] += 20 + 3 * now.parts.size();
        now.parts.clear();
        return now.calibrations.size() - 1;
    }

    int calibrate(int item, int standard, int offset) {
        return change(() -> doCalibrate(item, standard, offset));
    }

    int wouldRefuse(int item, int standard) {
        item(item);
        item(standard);
        return calibrationReason(item, standard);
    }

    int best(int item) {
        item(item);
        int best = -1;
        for (int standard = 0; standard < now.items.size(); standard++) {
            if (calibrationReason(item, standard) == 0
                    && (best == -1 || made(item, standard, 0).variance() < made(item, best, 0).variance())) {
                best = standard;
            }
        }
        element(best != -1);
        return best;
    }

    private void calibration(int calibration) {
        index(in(calibration, 0, now.calibrations.size() - 1));
    }

    int calibration(int calibration, int what) {
        calibration(calibration);
        argument(in(what, 0, 12));
        Calibration c = now.calibrations.get(calibration);
        int dependents = 0;
        for (int other = 0; other < now.calibrations.size(); other++) {
            dependents += other != calibration && chainOf(other).contains(calibration) ? 1 : 0;
        }
        int[] answers = {c.item(), c.standard(), c.source(), c.day(), c.offset(), (int) c.own(), c.uncertainty(),
            interval(calibration), dueDay(calibration), isInTolerance(calibration) ? 1 : 0, isDoubtful(calibration) ? 0 : 1,
            chainOf(calibration).size(), dependents};
        return answers[what];
    }

    long variance(int calibration, boolean isGrowth) {
        calibration(calibration);
        Calibration c = now.calibrations.get(calibration);
        return isGrowth ? c.growth() : c.variance();
    }

    long alongChain(int calibration) {
        calibration(calibration);
        return chainOf(calibration).stream().map(now.calibrations::get)
                .mapToLong(c -> c.own() + c.growth() + c.baseSquare()).sum();
    }

    int chain(int calibration, int index) {
        calibration(calibration);
        element(in(index, 0, chainOf(calibration).size() - 1));
        return chainOf(calibration).get(index);
    }

    int cause(int calibration) {
        calibration(calibration);
        element(isDoubtful(calibration));
        List<Integer> covered = new ArrayList<>(chainOf(calibration));
        covered.removeIf(c -> !isCovered(c));
        return covered.get(covered.size() - 1);
    }

    private int doRecall(int item, int first, int last) {
        item(item);
        argument(in(first, 0, 9999) && in(last, first, 9999));
        state(now.recalls.size() < 8);
        now.recalls.add(new Recall(item, first, last));
        return now.recalls.size() - 1;
    }

    int recall(int item, int first, int last) {
        return change(() -> doRecall(item, first, last));
    }

    private int doLift(int recall) {
        index(in(recall, 0, now.recalls.size() - 1));
        now.recalls.remove(recall);
        return now.recalls.size();
    }

    int lift(int recall) {
        return change(() -> doLift(recall));
    }

    int recalled(int recall, int what) {
        index(in(recall, 0, now.recalls.size() - 1));
        argument(in(what, 0, 3));
        Recall r = now.recalls.get(recall);
        int covered = (int) now.calibrations.stream().filter(c -> covers(now, r, c)).count();
        return new int[] {r.item(), r.first(), r.last(), covered}[what];
    }

    int reach(int item, int first, int last) {
        item(item);
        argument(in(first, 0, 9999) && in(last, first, 9999));
        int before = countGood();
        now.recalls.add(new Recall(item, first, last));
        int after = countGood();
        now.recalls.remove(now.recalls.size() - 1);
        return before - after;
    }

    private int countGood() {
        int good = 0;
        for (int c = 0; c < now.calibrations.size(); c++) {
            good += isDoubtful(c) ? 0 : 1;
        }
        return good;
    }

    private int allowance(int calibration, int day) {
        Calibration c = now.calibrations.get(calibration);
        return 2 * c.uncertainty() + (int) up((long) now.items.get(c.item())[3] * (day - c.day()), 100);
    }

    private int verdict(int calibration, int value, int limit, int allowance) {
        int distance = Math.abs(value - now.calibrations.get(calibration).offset());
        return distance + allowance <= limit ? 2 : distance - allowance > limit ? 0 : 1;
    }

    private int doMeasure(int item, int value, int limit) {
        item(item);
        argument(in(value, -9999, 9999) && in(limit, 0, 9999));
        refuse(kind(item) != 2 ? 6 : 0);
        int current = current(item);
        refuse(current == -1 ? 3 : now.day > dueDay(current) ? 4 : now.measurements.size() == 40 ? 7 : 0);
        int allowance = allowance(current, now.day);
        int verdict = verdict(current, value, limit, allowance);
        now.measurements.add(new Measurement(item, current, now.day, value, limit, allowance, verdict));
        now.items.get(item)[6] += 1;
        return now.measurements.size() - 1;
    }

    int measure(int item, int value, int limit) {
        return change(() -> doMeasure(item, value, limit));
    }

    int measurement(int measurement, int what) {
        index(in(measurement, 0, now.measurements.size() - 1));
        argument(in(what, 0, 7));
        Measurement m = now.measurements.get(measurement);
        return new int[] {m.item(), m.calibration(), m.day(), m.value(), m.limit(), m.allowance(), m.verdict(),
            isDoubtful(m.calibration()) ? 1 : 0}[what];
    }

    int again(int measurement) {
        index(in(measurement, 0, now.measurements.size() - 1));
        Measurement m = now.measurements.get(measurement);
        List<Integer> good = goodOnes(m.item());
        good.removeIf(c -> now.calibrations.get(c).day() > m.day());
        element(!good.isEmpty());
        int calibration = good.get(good.size() - 1);
        return verdict(calibration, m.value(), m.limit(), allowance(calibration, m.day()));
    }

    private int doIssue(int item) {
        item(item);
        int current = current(item);
        refuse(current == -1 ? 3 : now.day > dueDay(current) ? 4 : !isInTolerance(current) ? 8 : 0);
        refuse(now.certificates.size() == 20 ? 9 : 0);
        now.certificates.add(new Certificate(current, now.day));
        now.items.get(item)[6] += 5;
        return now.certificates.size() - 1;
    }

    int issue(int item) {
        return change(() -> doIssue(item));
    }

    private int certificateState(Certificate certificate) {
        int calibration = certificate.calibration();
        return isDoubtful(calibration) ? 2 : now.day > dueDay(calibration) ? 1 : 0;
    }

    int certificate(int certificate, int what) {
        index(in(certificate, 0, now.certificates.size() - 1));
        argument(in(what, 0, 2));
        Certificate c = now.certificates.get(certificate);
        return new int[] {c.calibration(), c.day(), certificateState(c)}[what];
    }

    int write(int certificate) {
        index(in(certificate, 0, now.certificates.size() - 1));
        int calibration = now.certificates.get(certificate).calibration();
        Calibration c = now.calibrations.get(calibration);
        List<String> standards = new ArrayList<>();
        for (int link : chainOf(calibration)) {
            standards.add(String.valueOf(now.calibrations.get(link).standard()));
        }
        writing = "N" + certificate + " I" + c.item() + " D" + c.day() + " O" + c.offset() + " U" + c.uncertainty() + " S"
                + String.join("<", standards);
        return writing.length();
    }

    char written(int index) {
        element(in(index, 0, writing.length() - 1));
        return writing.charAt(index);
    }

    int due(int place) {
        List<Integer> items = new ArrayList<>();
        for (int item = 0; item < now.items.size(); item++) {
            if (current(item) != -1) {
                items.add(item);
            }
        }
        items.sort((a, b) -> dueDay(current(a)) - dueDay(current(b)));
        element(in(place, 0, items.size() - 1));
        return items.get(place);
    }

    int overdueWithin(int days) {
        argument(in(days, 0, 9999));
        int overdue = 0;
        for (int item = 0; item < now.items.size(); item++) {
            overdue += current(item) != -1 && now.day + days > dueDay(current(item)) ? 1 : 0;
        }
        return overdue;
    }

    void append(char c) {
        state(input.length() < 80);
        input.append(c);
    }

    int read() {
        String text = input.toString();
        input.setLength(0);
        faultAt = faultOf(text);
        argument(faultAt == -1);
        World before = now.copy();
        String[] commands = text.split(";");
        for (int number = 0; number < commands.length; number++) {
            int refused = 0;
            try {
                carryOut(commands[number].split(" "));
            } catch (Refused e) {
                refused = e.reason;
            } catch (IndexOutOfBoundsException | IllegalArgumentException | IllegalStateException e) {
                refused = 10;
            }
            if (refused != 0) {
                now = before;
                reason = refused;
                command = number;
                throw new UnsupportedOperationException();
            }
        }
        changing(before);
        return commands.length;
    }

    static int faultOf(String text) {
        for (int end = 1; end <= text.length(); end++) {
            Matcher matcher = TEXT.matcher(text.substring(0, end));
            if (!matcher.matches() && !matcher.hitEnd()) {
                return end - 1;
            }
        }
        return TEXT.matcher(text).matches() ? -1 : text.length();
    }

    private void carryOut(String[] words) {
        int[] n = new int[3];
        for (int index = 1; index < words.length; index++) {
            n[index - 1] = Integer.parseInt(words[index]);
        }
        switch (words[0]) {
            case "part" -> {
                index(in(n[0], 0, 3));
                argument(in(n[1], 0, 999));
                state(now.parts.size() < 6);
                now.parts.add((int) up((long) n[1] * n[1], DIVISORS[n[0]]));
            }
            case "cal" -> doCalibrate(n[0], n[1], n[2]);
            case "pass" -> {
                argument(in(n[0], 1, 999));
                state(now.day + n[0] <= 9999);
                now.day += n[0];
            }
            case "recall" -> doRecall(n[0], n[1], n[2]);
            case "lift" -> doLift(n[0]);
            case "measure" -> doMeasure(n[0], n[1], n[2]);
            default -> doIssue(n[0]);
        }
    }

    int faultPosition() {
        return faultAt;
    }

    int refusal(boolean isReason) {
        element(reason != 0);
        return isReason ? reason : command;
    }

    long account(int what) {
        argument(in(what, 0, 10));
        long[] answers = {now.items.size(), now.calibrations.size(), countGood(), now.measurements.size(),
            now.measurements.stream().filter(m -> isDoubtful(m.calibration())).count(), now.certificates.size(),
            now.certificates.stream().filter(c -> certificateState(c) == 0).count(), now.recalls.size(),
            now.items.stream().mapToLong(i -> i[6]).sum(), now.parts.size(), past.size()};
        return answers[what];
    }

    double goodShare() {
        if (now.calibrations.isEmpty()) {
            throw new ArithmeticException();
        }
        return (double) countGood() / (double) now.calibrations.size();
    }

    int undo() {
        state(!past.isEmpty());
        now = past.removeLast();
        return past.size();
    }

    void save() {
        saved = now.copy();
    }

    void restore() {
        state(saved != null);
        now = saved.copy();
        past.clear();
    }
}
