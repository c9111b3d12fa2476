import java.util.ArrayList;
import java.util.Comparator;
import java.util.HashMap;
import java.util.HashSet;
import java.util.LinkedHashSet;
import java.util.List;
import java.util.Map;
import java.util.Set;
import java.util.TreeMap;

/**
 * The document's words once more, as plainly as they can be said with the whole Java library, and in
 * other ways than the program's: RandomRunsTest compares the two.
 */
final class NaiveEngine {
    private static final int LINES = 16;
    private static final long BILLION = 1000000000;
    private static final int SCANNED = 400;

    private record Def(int kind, int first, int second) {
        List<Integer> uses() {
            return switch (kind) {
                case TaxEngine.INPUT -> List.of();
                case TaxEngine.SHARE, TaxEngine.TAX, TaxEngine.CARRY -> List.of(first);
                default -> List.of(first, second);
            };
        }
    }

    private record Amount(int left, int last) {
    }

    private record Credit(int amount, int worth) {
    }

    private List<Def> defs = new ArrayList<>();
    private List<Set<Integer>> reached = new ArrayList<>();
    private final int[] answers = new int[LINES];
    private final TreeMap<Integer, Integer> brackets = new TreeMap<>();
    private List<Amount> amounts = new ArrayList<>();
    private final List<Credit> credits = new ArrayList<>();
    private int year = 0;

    NaiveEngine() {
        for (int line = 0; line < LINES; line++) {
            defs.add(new Def(TaxEngine.INPUT, 0, 0));
            reached.add(Set.of());
        }
    }

    // ---- lines

    void define(int line, int kind, int first, int second) {
        bounds(isLine(line));
        boolean known = kind >= TaxEngine.INPUT && kind <= TaxEngine.LIMIT;
        if (known) {
            Def def = new Def(kind, first, second);
            for (int used : def.uses()) {
                bounds(isLine(used));
            }
        }
        argument(known);
        argument(kind != TaxEngine.SHARE || second >= 0 && second <= 1000);
        List<Def> then = new ArrayList<>(defs);
        then.set(line, new Def(kind, first, second));
        List<Set<Integer>> reachedThen = new ArrayList<>();
        for (int each = 0; each < LINES; each++) {
            reachedThen.add(reached(then, each, TaxEngine.NONE));
        }
        if (!circlesAllowed(then, reachedThen)) {
            throw new IllegalStateException();
        }
        defs = then;
        reached = reachedThen;
    }

    int answer(int line, int value) {
        bounds(isLine(line));
        argument(value >= 0 && value <= 1000000);
        int before = answers[line];
        answers[line] = value;
        return before;
    }

    int kindOf(int line) {
        bounds(isLine(line));
        return defs.get(line).kind();
    }

    int value(int line) {
        bounds(isLine(line));
        return (int) valueOf(line, new HashMap<>());
    }

    int boundFor(int line, int value) {
        bounds(isLine(line));
        argument(value >= 0 && value <= BILLION);
        if (kindOf(line) != TaxEngine.LIMIT) {
            throw new IllegalStateException();
        }
        return (int) bound(line, value, new HashMap<>());
    }

    boolean dependsOn(int line, int other) {
        bounds(isLine(line));
        bounds(isLine(other));
        return reached.get(line).contains(other);
    }

    int influence(int line) {
        bounds(isLine(line));
        if (kindOf(line) != TaxEngine.INPUT) {
            return 0;
        }
        long[] before = allValues();
        answers[line]++;
        long[] after = allValues();
        answers[line]--;
        int changed = 0;
        for (int each = 0; each < LINES; each++) {
            changed += before[each] == after[each] ? 0 : 1;
        }
        return changed;
    }

    int why(int line, int place) {
        bounds(isLine(line));
        bounds(place >= 0);
        List<Integer> row = new ArrayList<>(List.of(line));
        for (int at = 0; at < row.size(); at++) {
            for (int reason : reasons(row.get(at))) {
                if (!row.contains(reason)) {
                    row.add(reason);
                }
            }
        }
        return place < row.size() ? row.get(place) : TaxEngine.NONE;
    }

    private List<Integer> reasons(int line) {
        Def def = defs.get(line);
        return switch (def.kind()) {
            case TaxEngine.LESSER, TaxEngine.GREATER, TaxEngine.LIMIT ->
                List.of(value(def.first()) == value(line) ? def.first() : def.second());
            default -> def.uses();
        };
    }

    private long[] allValues() {
        Map<Integer, Long> memo = new HashMap<>();
        long[] values = new long[LINES];
        for (int line = 0; line < LINES; line++) {
            values[line] = valueOf(line, memo);
        }
        return values;
    }

    /** The value of a line while other lines are known to have the values in the map, which grows. */
    private long valueOf(int line, Map<Integer, Long> known) {
        Long there = known.get(line);
        if (there != null) {
            return there;
        }
        Def def = defs.get(line);
        long value = switch (def.kind()) {
            case TaxEngine.INPUT -> answers[line];
            case TaxEngine.SUM -> Math.min(BILLION, valueOf(def.first(), known) + valueOf(def.second(), known));
            case TaxEngine.REST -> Math.max(0, valueOf(def.first(), known) - valueOf(def.second(), known));
            case TaxEngine.SHARE -> valueOf(def.first(), known) * def.second() / 1000;
            case TaxEngine.LESSER -> Math.min(valueOf(def.first(), known), valueOf(def.second(), known));
            case TaxEngine.GREATER -> Math.max(valueOf(def.first(), known), valueOf(def.second(), known));
            case TaxEngine.TAX -> tax(valueOf(def.first(), known));
            case TaxEngine.CARRY -> Math.min(valueOf(def.first(), known), carried());
            default -> limit(line, valueOf(def.first(), known), known);
        };
        known.put(line, value);
        return value;
    }

    private long bound(int line, long value, Map<Integer, Long> known) {
        int second = defs.get(line).second();
        // What depends on the limit has another value for each value of the limit; all else is worked out once.
        for (int used : reached.get(second)) {
            if (!reached.get(used).contains(line)) {
                valueOf(used, known);
            }
        }
        Map<Integer, Long> supposed = new HashMap<>(known);
        supposed.keySet().removeIf(each -> reached.get(each).contains(line));
        supposed.put(line, value);
        return valueOf(second, supposed);
    }

    private long limit(int line, long first, Map<Integer, Long> known) {
        if (first <= SCANNED) {
            for (long x = first; x >= 0; x--) {
                if (x <= bound(line, x, known)) {
                    return x;
                }
            }
        }
        long good = 0;
        for (long step = 1 << 30; step > 0; step /= 2) {
            if (good + step <= first && good + step <= bound(line, good + step, known)) {
                good += step;
            }
        }
        return good;
    }

    // ---- circles

    /** What a line depends on, without the use of its line second by one limit. */
    private static Set<Integer> reached(List<Def> defs, int line, int cutLimit) {
        Set<Integer> found = new LinkedHashSet<>();
        List<Integer> open = new ArrayList<>(List.of(line));
        while (!open.isEmpty()) {
            int next = open.remove(open.size() - 1);
            List<Integer> uses = next == cutLimit ? List.of(defs.get(next).first()) : defs.get(next).uses();
            for (int used : uses) {
                if (found.add(used)) {
                    open.add(used);
                }
            }
        }
        return found;
    }

    private static boolean circlesAllowed(List<Def> defs, List<Set<Integer>> reached) {
        for (int line = 0; line < LINES; line++) {
            if (reached.get(line).contains(line) && !circleAllowed(defs, reached, line)) {
                return false;
            }
        }
        return true;
    }

    private static boolean circleAllowed(List<Def> defs, List<Set<Integer>> reached, int line) {
        Set<Integer> circle = new HashSet<>();
        List<Integer> limits = new ArrayList<>();
        for (int other = 0; other < LINES; other++) {
            if (reached.get(line).contains(other) && reached.get(other).contains(line)) {
                circle.add(other);
                if (defs.get(other).kind() == TaxEngine.LIMIT) {
                    limits.add(other);
                }
            }
        }
        if (limits.size() != 1 || circle.contains(defs.get(limits.get(0)).first())) {
            return false;
        }
        int limit = limits.get(0);
        for (int other : circle) {
            if (reached(defs, other, limit).contains(other)) {
                return false;
            }
        }
        return fallsAsItShould(defs, circle, limit);
    }

    private static boolean fallsAsItShould(List<Def> defs, Set<Integer> circle, int limit) {
        Set<Integer> rising = new HashSet<>(Set.of(limit));
        Set<Integer> falling = new HashSet<>();
        boolean grown = true;
        while (grown) {
            grown = false;
            for (int line : circle) {
                Def def = defs.get(line);
                if (line == limit) {
                    continue;
                }
                boolean two = def.uses().size() == 2;
                boolean rest = def.kind() == TaxEngine.REST;
                Set<Integer> secondRises = rest ? falling : rising;
                Set<Integer> secondFalls = rest ? rising : falling;
                if (rising.contains(def.first()) || two && secondRises.contains(def.second())) {
                    grown |= rising.add(line);
                }
                if (falling.contains(def.first()) || two && secondFalls.contains(def.second())) {
                    grown |= falling.add(line);
                }
            }
        }
        boolean both = rising.stream().anyMatch(falling::contains);
        return !both && falling.contains(defs.get(limit).second());
    }

    // ---- brackets

    int bracket(int threshold, int rate) {
        argument(threshold >= 0 && threshold <= 1000000);
        argument(rate >= 0 && rate <= 1000);
        if (!brackets.containsKey(threshold) && brackets.size() == 5) {
            throw new IllegalStateException();
        }
        brackets.put(threshold, rate);
        return brackets.size();
    }

    int dropBrackets() {
        int size = brackets.size();
        brackets.clear();
        return size;
    }

    int taxOn(int value) {
        argument(value >= 0 && value <= BILLION);
        return (int) tax(value);
    }

    private long tax(long value) {
        long tax = 0;
        for (Map.Entry<Integer, Integer> each : brackets.headMap((int) value, true).entrySet()) {
            Integer next = brackets.higherKey(each.getKey());
            long end = next == null || next > value ? value : next;
            tax += (end - each.getKey()) * each.getValue() / 1000;
        }
        return tax;
    }

    // ---- years

    int carry(int amount, int last) {
        argument(amount >= 1 && amount <= 1000000);
        argument(last >= year && last <= year + 20);
        if (amounts.size() == 8) {
            throw new IllegalStateException();
        }
        amounts.add(new Amount(amount, last));
        return carried();
    }

    int carried() {
        return amounts.stream().mapToInt(Amount::left).sum();
    }

    int carriedAt(int place) {
        bounds(place >= 0 && place < amounts.size());
        return inOrder().get(place).left();
    }

    int year() {
        return year;
    }

    int closeYear() {
        long[] values = allValues();
        int before = carried();
        for (int line = 0; line < LINES; line++) {
            if (kindOf(line) == TaxEngine.CARRY) {
                spend(values[line]);
            }
        }
        int spent = before - carried();
        amounts.removeIf(each -> each.left() == 0 || each.last() <= year);
        year++;
        return spent;
    }

    private void spend(long wanted) {
        for (long unit = 0; unit < wanted && carried() > 0; ) {
            List<Amount> row = inOrder();
            Amount next = row.stream().filter(each -> each.left() > 0).findFirst().get();
            int part = (int) Math.min(wanted - unit, next.left());
            for (int at = 0; at < amounts.size(); at++) {
                if (amounts.get(at) == next) {
                    amounts.set(at, new Amount(next.left() - part, next.last()));
                    break;
                }
            }
            unit += part;
        }
    }

    private List<Amount> inOrder() {
        List<Amount> row = new ArrayList<>(amounts);
        row.sort(Comparator.comparingInt(Amount::last));
        return row;
    }

    // ---- credits

    int addCredit(int amount, int worth) {
        argument(amount >= 1 && amount <= 1000000);
        argument(worth >= 0 && worth <= 1000);
        if (credits.size() == 5) {
            throw new IllegalStateException();
        }
        credits.add(new Credit(amount, worth));
        return credits.size() - 1;
    }

    int dropCredit() {
        if (credits.isEmpty()) {
            throw new IllegalStateException();
        }
        credits.remove(credits.size() - 1);
        return credits.size();
    }

    int creditAt(int line, int place) {
        bounds(isLine(line));
        bounds(place >= 0 && place < credits.size());
        return best(value(line), new ArrayList<>()).get(place);
    }

    int afterCredits(int line) {
        bounds(isLine(line));
        return Math.max(0, value(line) - credits.stream().mapToInt(Credit::amount).sum());
    }

    int bestSum(int line) {
        bounds(isLine(line));
        return (int) sum(value(line), best(value(line), new ArrayList<>()));
    }

    private List<Integer> best(long tax, List<Integer> begun) {
        if (begun.size() == credits.size()) {
            return begun;
        }
        List<Integer> best = null;
        for (int number = 0; number < credits.size(); number++) {
            if (!begun.contains(number)) {
                List<Integer> longer = new ArrayList<>(begun);
                longer.add(number);
                List<Integer> whole = best(tax, longer);
                if (best == null || sum(tax, whole) > sum(tax, best)) {
                    best = whole;
                }
            }
        }
        return best;
    }

    private long sum(long tax, List<Integer> order) {
        long left = tax;
        long sum = 0;
        for (int number : order) {
            Credit credit = credits.get(number);
            long used = Math.min(left, credit.amount());
            left -= used;
            sum += used + (credit.amount() - used) * credit.worth() / 1000;
        }
        return sum;
    }

    private static boolean isLine(int line) {
        return line >= 0 && line < LINES;
    }

    private static void bounds(boolean good) {
        if (!good) {
            throw new IndexOutOfBoundsException();
        }
    }

    private static void argument(boolean good) {
        if (!good) {
            throw new IllegalArgumentException();
        }
    }
}
