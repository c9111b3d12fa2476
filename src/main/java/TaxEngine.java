/**
 * An engine for tax returns. What each call promises stands in the project's document, DOC.md.
 *
 * The face checks the arguments and throws; the classes inside do the work and never throw. A set of
 * lines is an int whose bit n stands for line n.
 */
public final class TaxEngine {
    public static final int NONE = -1;
    public static final int INPUT = 0, SUM = 1, REST = 2, SHARE = 3, LESSER = 4, GREATER = 5, TAX = 6, CARRY = 7, LIMIT = 8;

    private static final int LINES = 16;
    private static final int ALL_LINES = 65535;
    private static final int MOST_VALUE = 1000000000;
    private static final int MOST_GIVEN = 1000000;
    private static final int THOUSAND = 1000;
    private static final int MOST_BRACKETS = 5;
    private static final int MOST_AMOUNTS = 8;
    private static final int MOST_YEARS_AHEAD = 20;
    private static final int MOST_CREDITS = 5;
    private static final int MOST_ORDERS = 120;
    private static final int HALVINGS = 31;

    private final Sheet sheet;
    private final Plan plan;
    private final Brackets brackets;
    private final Amounts amounts;
    private final Credits credits;
    private final Values values;
    private final Values raisedValues;
    private final Explanation explanation;

    public TaxEngine() {
        sheet = new Sheet();
        plan = new Plan();
        brackets = new Brackets();
        amounts = new Amounts();
        credits = new Credits();
        values = new Values(sheet, plan, brackets, amounts);
        raisedValues = new Values(sheet, plan, brackets, amounts);
        explanation = new Explanation();
        plan.make(sheet);
    }

    // ---- lines

    public void define(int line, int kind, int first, int second) throws IndexOutOfBoundsException, IllegalArgumentException, IllegalStateException {
        checkLine(line);
        boolean known = isWithin(kind, INPUT, LIMIT);
        if (known && takesFirst(kind)) {
            checkLine(first);
        }
        if (known && takesSecond(kind)) {
            checkLine(second);
        }
        checkArgument(known && (kind != SHARE || isWithin(second, 0, THOUSAND)));
        int kindBefore = sheet.kind(line);
        int firstBefore = sheet.first(line);
        int secondBefore = sheet.second(line);
        sheet.set(line, kind, first, second);
        if (!plan.make(sheet)) {
            sheet.set(line, kindBefore, firstBefore, secondBefore);
            plan.make(sheet);
            throw new IllegalStateException();
        }
    }

    public int answer(int line, int value) throws IndexOutOfBoundsException, IllegalArgumentException {
        checkLine(line);
        checkArgument(isWithin(value, 0, MOST_GIVEN));
        int before = sheet.given(line);
        sheet.give(line, value);
        return before;
    }

    public int kindOf(int line) throws IndexOutOfBoundsException {
        checkLine(line);
        return sheet.kind(line);
    }

    public int value(int line) throws IndexOutOfBoundsException {
        checkLine(line);
        values.workOut(NONE);
        return values.of(line);
    }

    public int boundFor(int line, int value) throws IndexOutOfBoundsException, IllegalArgumentException, IllegalStateException {
        checkLine(line);
        checkArgument(isWithin(value, 0, MOST_VALUE));
        checkState(sheet.kind(line) == LIMIT);
        values.workOut(NONE);
        values.suppose(plan.placeOf(line), value);
        return values.of(sheet.second(line));
    }

    public boolean dependsOn(int line, int other) throws IndexOutOfBoundsException {
        checkLine(line);
        checkLine(other);
        return has(plan.reach(line), other);
    }

    public int influence(int line) throws IndexOutOfBoundsException {
        checkLine(line);
        if (sheet.kind(line) != INPUT) {
            return 0;
        }
        values.workOut(NONE);
        raisedValues.workOut(line);
        int changed = 0;
        for (int each = 0; each < LINES; each++) {
            if (values.of(each) != raisedValues.of(each)) {
                changed++;
            }
        }
        return changed;
    }

    public int why(int line, int place) throws IndexOutOfBoundsException {
        checkLine(line);
        checkPlace(place >= 0);
        values.workOut(NONE);
        explanation.explain(line, sheet, values);
        return explanation.lineAt(place);
    }

    // ---- brackets

    public int bracket(int threshold, int rate) throws IllegalArgumentException, IllegalStateException {
        checkArgument(isWithin(threshold, 0, MOST_GIVEN) && isWithin(rate, 0, THOUSAND));
        checkState(brackets.hasRoomFor(threshold));
        brackets.set(threshold, rate);
        return brackets.size();
    }

    public int dropBrackets() {
        int before = brackets.size();
        brackets.clear();
        return before;
    }

    public int taxOn(int value) throws IllegalArgumentException {
        checkArgument(isWithin(value, 0, MOST_VALUE));
        return brackets.tax(value);
    }

    // ---- years

    public int carry(int amount, int last) throws IllegalArgumentException, IllegalStateException {
        int now = amounts.now();
        checkArgument(isWithin(amount, 1, MOST_GIVEN) && isWithin(last, now, now + MOST_YEARS_AHEAD));
        checkState(amounts.size() < MOST_AMOUNTS);
        amounts.add(amount, last);
        return amounts.total();
    }

    public int carried() {
        return amounts.total();
    }

    public int carriedAt(int place) throws IndexOutOfBoundsException {
        checkPlace(place >= 0 && place < amounts.size());
        return amounts.leftAt(place);
    }

    public int year() {
        return amounts.now();
    }

    public int closeYear() {
        // All values are worked out before anything is spent: what one line takes changes no value of another.
        values.workOut(NONE);
        int spent = 0;
        for (int line = 0; line < LINES; line++) {
            if (sheet.kind(line) == CARRY) {
                spent += amounts.take(values.of(line));
            }
        }
        amounts.endYear();
        return spent;
    }

    // ---- credits

    public int addCredit(int amount, int worth) throws IllegalArgumentException, IllegalStateException {
        checkArgument(isWithin(amount, 1, MOST_GIVEN) && isWithin(worth, 0, THOUSAND));
        checkState(credits.size() < MOST_CREDITS);
        credits.add(amount, worth);
        return credits.size() - 1;
    }

    public int dropCredit() throws IllegalStateException {
        checkState(credits.size() > 0);
        credits.dropLast();
        return credits.size();
    }

    public int creditAt(int line, int place) throws IndexOutOfBoundsException {
        checkLine(line);
        checkPlace(place >= 0 && place < credits.size());
        values.workOut(NONE);
        credits.findBest(values.of(line));
        return credits.bestAt(place);
    }

    public int afterCredits(int line) throws IndexOutOfBoundsException {
        checkLine(line);
        values.workOut(NONE);
        int tax = values.of(line);
        return tax - Math.min(tax, credits.total());
    }

    public int bestSum(int line) throws IndexOutOfBoundsException {
        checkLine(line);
        values.workOut(NONE);
        return credits.findBest(values.of(line));
    }

    // ---- helpers

    private static void checkLine(int line) {
        checkPlace(isWithin(line, 0, LINES - 1));
    }

    private static void checkPlace(boolean good) {
        if (!good) {
            throw new IndexOutOfBoundsException();
        }
    }

    private static void checkArgument(boolean good) {
        if (!good) {
            throw new IllegalArgumentException();
        }
    }

    private static void checkState(boolean good) {
        if (!good) {
            throw new IllegalStateException();
        }
    }

    private static boolean isWithin(int number, int least, int most) {
        return number >= least && number <= most;
    }

    private static boolean takesFirst(int kind) {
        return kind != INPUT;
    }

    private static boolean takesSecond(int kind) {
        return kind == SUM || kind == REST || kind == LESSER || kind == GREATER || kind == LIMIT;
    }

    private static int bit(int line) {
        return 1 << line;
    }

    private static boolean has(int lines, int line) {
        return (lines & bit(line)) != 0;
    }

    private static int thousandths(int number, int rate) {
        return (int) ((long) number * rate / THOUSAND);
    }

    /** Reads a row; the test of the place keeps the machine from throwing, whatever the caller does. */
    private static int at(int[] row, int place) {
        return place >= 0 && place < row.length ? row[place] : 0;
    }

    private static void put(int[] row, int place, int number) {
        if (place >= 0 && place < row.length) {
            row[place] = number;
        }
    }

    /** The lines as they are defined, and the answers that were given. */
    private static final class Sheet {
        private final int[] kinds = new int[LINES];
        private final int[] firsts = new int[LINES];
        private final int[] seconds = new int[LINES];
        private final int[] answers = new int[LINES];

        void set(int line, int kind, int first, int second) {
            put(kinds, line, kind);
            put(firsts, line, first);
            put(seconds, line, second);
        }

        int kind(int line) {
            return at(kinds, line);
        }

        int first(int line) {
            return at(firsts, line);
        }

        int second(int line) {
            return at(seconds, line);
        }

        int given(int line) {
            return at(answers, line);
        }

        void give(int line, int number) {
            put(answers, line, number);
        }

        int uses(int line) {
            int kind = kind(line);
            int lines = takesFirst(kind) ? bit(first(line)) : 0;
            return takesSecond(kind) ? lines | bit(second(line)) : lines;
        }
    }

    /**
     * What depends on what, whether the circles are allowed, and an order in which the lines can be
     * worked out: the lines of a circle stand in it one behind the other, the LIMIT ahead of the others.
     */
    private static final class Plan {
        private final int[] reach = new int[LINES];
        private final int[] groups = new int[LINES];
        private final int[] order = new int[LINES];
        private int size;
        private int placed;
        private int rising;
        private int falling;

        /** Makes the plan anew; answers whether the circles are allowed. If not, there is no order. */
        boolean make(Sheet sheet) {
            findReach(sheet);
            findGroups();
            size = 0;
            placed = 0;
            for (int round = 0; round < LINES && placed != ALL_LINES; round++) {
                for (int line = 0; line < LINES; line++) {
                    if (isReady(line) && !isCircular(line)) {
                        place(line);
                    } else if (isReady(line) && !placeCircle(sheet, groupOf(line))) {
                        return false;
                    }
                }
            }
            return true;
        }

        int reach(int line) {
            return at(reach, line);
        }

        boolean isCircular(int line) {
            return has(reach(line), line);
        }

        /** The line and all the lines that are in a circle with it. */
        int groupOf(int line) {
            return at(groups, line);
        }

        int lineAt(int place) {
            return at(order, place);
        }

        int placeOf(int line) {
            for (int place = 0; place < LINES; place++) {
                if (lineAt(place) == line) {
                    return place;
                }
            }
            return NONE;
        }

        private void findReach(Sheet sheet) {
            for (int line = 0; line < LINES; line++) {
                put(reach, line, sheet.uses(line));
            }
            for (int middle = 0; middle < LINES; middle++) {
                for (int line = 0; line < LINES; line++) {
                    if (has(reach(line), middle)) {
                        put(reach, line, reach(line) | reach(middle));
                    }
                }
            }
        }

        private void findGroups() {
            for (int line = 0; line < LINES; line++) {
                int group = bit(line);
                for (int other = 0; other < LINES; other++) {
                    if (has(reach(line), other) && has(reach(other), line)) {
                        group |= bit(other);
                    }
                }
                put(groups, line, group);
            }
        }

        private boolean isReady(int line) {
            return !has(placed, line) && (reach(line) & ~groupOf(line) & ~placed) == 0;
        }

        private void place(int line) {
            put(order, size, line);
            size++;
            placed |= bit(line);
        }

        private boolean placeCircle(Sheet sheet, int group) {
            int limit = onlyLimit(sheet, group);
            if (limit == NONE || has(group, sheet.first(limit))) {
                return false;
            }
            rising = bit(limit);
            falling = 0;
            place(limit);
            for (int round = 0; round < LINES; round++) {
                for (int line = 0; line < LINES; line++) {
                    if (has(group & ~placed, line) && (sheet.uses(line) & ~placed) == 0) {
                        place(line);
                        direct(sheet, line);
                    }
                }
            }
            boolean acyclic = (group & ~placed) == 0;
            return acyclic && (rising & falling) == 0 && has(falling, sheet.second(limit));
        }

        private int onlyLimit(Sheet sheet, int group) {
            int limit = NONE;
            for (int line = 0; line < LINES; line++) {
                if (has(group, line) && sheet.kind(line) == LIMIT) {
                    if (limit != NONE) {
                        return NONE;
                    }
                    limit = line;
                }
            }
            return limit;
        }

        /** Tells whether a line rises or falls with the LIMIT of its circle, by the lines that it uses. */
        private void direct(Sheet sheet, int line) {
            boolean turns = sheet.kind(line) == REST;
            int along = turns ? bit(sheet.first(line)) : sheet.uses(line);
            int against = turns ? bit(sheet.second(line)) : 0;
            boolean rises = (along & rising) != 0 || (against & falling) != 0;
            boolean falls = (along & falling) != 0 || (against & rising) != 0;
            if (rises) {
                rising |= bit(line);
            }
            if (falls) {
                falling |= bit(line);
            }
        }
    }

    /** The values of all lines, worked out by the plan. */
    private static final class Values {
        private final Sheet sheet;
        private final Plan plan;
        private final Brackets brackets;
        private final Amounts amounts;
        private final int[] numbers = new int[LINES];
        private int raised = NONE;

        Values(Sheet sheet, Plan plan, Brackets brackets, Amounts amounts) {
            this.sheet = sheet;
            this.plan = plan;
            this.brackets = brackets;
            this.amounts = amounts;
        }

        int of(int line) {
            return at(numbers, line);
        }

        /** Works out all lines, with the answer for one line, if there is one, greater by 1. */
        void workOut(int raisedLine) {
            raised = raisedLine;
            for (int place = 0; place < LINES; place++) {
                int line = plan.lineAt(place);
                boolean searched = sheet.kind(line) == LIMIT && plan.isCircular(line);
                put(numbers, line, searched ? greatest(place) : plain(line));
            }
        }

        /** Gives a LIMIT some value, and works out the other lines of its circle by that. */
        void suppose(int place, int number) {
            int line = plan.lineAt(place);
            put(numbers, line, number);
            int end = place + Integer.bitCount(plan.groupOf(line));
            for (int next = place + 1; next < end; next++) {
                int follower = plan.lineAt(next);
                put(numbers, follower, plain(follower));
            }
        }

        /** The line second falls with the LIMIT, so that what is not above it can be found by halving. */
        private int greatest(int place) {
            int line = plan.lineAt(place);
            int low = 0;
            int high = of(sheet.first(line));
            for (int step = 0; step < HALVINGS && low < high; step++) {
                int middle = low + (high - low + 1) / 2;
                suppose(place, middle);
                if (middle <= of(sheet.second(line))) {
                    low = middle;
                } else {
                    high = middle - 1;
                }
            }
            return low;
        }

        private int plain(int line) {
            int first = of(sheet.first(line));
            int second = sheet.second(line);
            switch (sheet.kind(line)) {
                case SUM:
                    return Math.min(first + of(second), MOST_VALUE);
                case REST:
                    return Math.max(first - of(second), 0);
                case SHARE:
                    return thousandths(first, second);
                case LESSER:
                case LIMIT:
                    return Math.min(first, of(second));
                case GREATER:
                    return Math.max(first, of(second));
                case TAX:
                    return brackets.tax(first);
                case CARRY:
                    return Math.min(first, amounts.total());
                default:
                    return line == raised ? sheet.given(line) + 1 : sheet.given(line);
            }
        }
    }

    /** The row of lines that explains a line. */
    private static final class Explanation {
        private final int[] row = new int[LINES];
        private int size;
        private int taken;

        void explain(int line, Sheet sheet, Values values) {
            size = 0;
            taken = 0;
            add(line);
            for (int place = 0; place < LINES && place < size; place++) {
                addReasons(at(row, place), sheet, values);
            }
        }

        int lineAt(int place) {
            return place >= 0 && place < size ? at(row, place) : NONE;
        }

        private void add(int line) {
            if (!has(taken, line)) {
                put(row, size, line);
                size++;
                taken |= bit(line);
            }
        }

        private void addReasons(int line, Sheet sheet, Values values) {
            int first = sheet.first(line);
            switch (sheet.kind(line)) {
                case SUM:
                case REST:
                    add(first);
                    add(sheet.second(line));
                    break;
                case SHARE:
                case TAX:
                case CARRY:
                    add(first);
                    break;
                case LESSER:
                case GREATER:
                case LIMIT:
                    add(values.of(first) == values.of(line) ? first : sheet.second(line));
                    break;
                default:
                    break;
            }
        }
    }

    /** The brackets, by rising threshold. */
    private static final class Brackets {
        private final int[] thresholds = new int[MOST_BRACKETS];
        private final int[] rates = new int[MOST_BRACKETS];
        private int count;

        int size() {
            return count;
        }

        void clear() {
            count = 0;
        }

        boolean hasRoomFor(int threshold) {
            return count < MOST_BRACKETS || isAt(placeFor(threshold), threshold);
        }

        void set(int threshold, int rate) {
            int place = placeFor(threshold);
            if (!isAt(place, threshold)) {
                for (int from = count - 1; from >= place; from--) {
                    put(thresholds, from + 1, at(thresholds, from));
                    put(rates, from + 1, at(rates, from));
                }
                put(thresholds, place, threshold);
                count++;
            }
            put(rates, place, rate);
        }

        int tax(int number) {
            int sum = 0;
            for (int place = 0; place < count; place++) {
                int upTo = place + 1 < count ? Math.min(number, at(thresholds, place + 1)) : number;
                int part = Math.max(upTo - at(thresholds, place), 0);
                sum += thousandths(part, at(rates, place));
            }
            return sum;
        }

        private int placeFor(int threshold) {
            int place = 0;
            while (place < count && at(thresholds, place) < threshold) {
                place++;
            }
            return place;
        }

        private boolean isAt(int place, int threshold) {
            return place < count && at(thresholds, place) == threshold;
        }
    }

    /** The year, and the amounts that are carried, in the order in which they are spent. */
    private static final class Amounts {
        private final int[] lefts = new int[MOST_AMOUNTS];
        private final int[] lasts = new int[MOST_AMOUNTS];
        private int count;
        private int now;

        int now() {
            return now;
        }

        int size() {
            return count;
        }

        int leftAt(int place) {
            return at(lefts, place);
        }

        int total() {
            int sum = 0;
            for (int place = 0; place < count; place++) {
                sum += leftAt(place);
            }
            return sum;
        }

        void add(int amount, int last) {
            int place = count;
            while (place > 0 && at(lasts, place - 1) > last) {
                move(place - 1, place);
                place--;
            }
            put(lefts, place, amount);
            put(lasts, place, last);
            count++;
        }

        /** Takes as much as is wanted, or as there is; answers how much that was. */
        int take(int wanted) {
            int missing = wanted;
            for (int place = 0; place < count; place++) {
                int part = Math.min(missing, leftAt(place));
                put(lefts, place, leftAt(place) - part);
                missing -= part;
            }
            return wanted - missing;
        }

        void endYear() {
            int kept = 0;
            for (int place = 0; place < count; place++) {
                if (leftAt(place) > 0 && at(lasts, place) > now) {
                    move(place, kept);
                    kept++;
                }
            }
            count = kept;
            now++;
        }

        private void move(int from, int to) {
            put(lefts, to, at(lefts, from));
            put(lasts, to, at(lasts, from));
        }
    }

    /** The credits, and their best order against a tax. */
    private static final class Credits {
        private final int[] sizes = new int[MOST_CREDITS];
        private final int[] worths = new int[MOST_CREDITS];
        private final int[] order = new int[MOST_CREDITS];
        private final int[] best = new int[MOST_CREDITS];
        private int count;

        int size() {
            return count;
        }

        void add(int amount, int worth) {
            put(sizes, count, amount);
            put(worths, count, worth);
            count++;
        }

        void dropLast() {
            count--;
        }

        int total() {
            int sum = 0;
            for (int number = 0; number < count; number++) {
                sum += at(sizes, number);
            }
            return sum;
        }

        int bestAt(int place) {
            return at(best, place);
        }

        /** Tries the orders from the lowest one on, so that the first of several equal ones stays the best. */
        int findBest(int tax) {
            for (int place = 0; place < MOST_CREDITS; place++) {
                put(order, place, place);
            }
            int greatest = NONE;
            boolean more = true;
            for (int tried = 0; tried < MOST_ORDERS && more; tried++) {
                int sum = sumInOrder(tax);
                if (sum > greatest) {
                    greatest = sum;
                    keepOrder();
                }
                more = toNextOrder();
            }
            return greatest;
        }

        private int sumInOrder(int tax) {
            int left = tax;
            int sum = 0;
            for (int place = 0; place < count; place++) {
                int number = at(order, place);
                int used = Math.min(left, at(sizes, number));
                left -= used;
                sum += used + thousandths(at(sizes, number) - used, at(worths, number));
            }
            return sum;
        }

        private void keepOrder() {
            for (int place = 0; place < count; place++) {
                put(best, place, at(order, place));
            }
        }

        /** Steps to the order that follows this one, place by place compared; answers whether there is one. */
        private boolean toNextOrder() {
            int turn = count - 2;
            while (turn >= 0 && at(order, turn) > at(order, turn + 1)) {
                turn--;
            }
            if (turn < 0) {
                return false;
            }
            int partner = count - 1;
            while (partner > turn && at(order, partner) < at(order, turn)) {
                partner--;
            }
            swap(turn, partner);
            for (int low = turn + 1, high = count - 1; low < high; low++, high--) {
                swap(low, high);
            }
            return true;
        }

        private void swap(int one, int other) {
            int number = at(order, one);
            put(order, one, at(order, other));
            put(order, other, number);
        }
    }
}
