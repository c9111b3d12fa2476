import java.util.Random;
import java.util.function.IntSupplier;

/** Runs of calls drawn at random from fixed seeds, on the program and on the plain one: all answers are the same. */
public final class RandomRunsTest {
    private static final int RUNS = 500;
    private static final int STEPS = 400;
    private static final int[] EDGES = {Integer.MIN_VALUE, -1, 0, 1, 15, 16, 1000, 1001, 1000000, 1000001, 1000000000,
        1000000001, Integer.MAX_VALUE};

    private final Random random;
    private final TaxEngine engine = new TaxEngine();
    private final NaiveEngine naive = new NaiveEngine();
    private final int lines;
    private final int most;

    private RandomRunsTest(int seed) {
        random = new Random(seed);
        lines = seed % 3 == 0 ? 16 : 4 + seed % 5;
        most = seed % 4 == 0 ? 1000000 : seed % 4 == 1 ? 20 : 300;
    }

    public static void main(String[] args) {
        int withCircles = 0;
        for (int seed = 1; seed <= RUNS; seed++) {
            RandomRunsTest run = new RandomRunsTest(seed);
            for (int step = 0; step < STEPS; step++) {
                String before = "run " + seed + ", step " + step + ": ";
                if (!run.step(before)) {
                    break;
                }
                withCircles += run.hasCircle() ? 1 : 0;
            }
        }
        System.out.println("in " + withCircles + " of " + RUNS * STEPS + " steps a circle stood");
        Checks.due("enough of them", withCircles > RUNS * STEPS / 4, true);
        Checks.end();
    }

    private boolean hasCircle() {
        for (int line = 0; line < 16; line++) {
            if (naive.dependsOn(line, line)) {
                return true;
            }
        }
        return false;
    }

    private int line() {
        return random.nextInt(60) == 0 ? edge() : random.nextInt(lines);
    }

    /** Draws several times for a line that is worked out from others, so that circles come about. */
    private int operand(boolean input) {
        int drawn = line();
        for (int again = 0; again < 3 && drawn >= 0 && drawn < 16 && input != (naive.kindOf(drawn) == TaxEngine.INPUT); again++) {
            drawn = line();
        }
        return drawn;
    }

    private int edge() {
        return EDGES[random.nextInt(EDGES.length)];
    }

    private int number(int from, int to) {
        int which = random.nextInt(40);
        return which == 0 ? edge() : which == 1 ? from : which == 2 ? to : from + random.nextInt(to - from + 1);
    }

    private int kind() {
        int which = random.nextInt(40);
        if (which == 0) {
            return edge();
        }
        return which < 8 ? TaxEngine.LIMIT : which < 16 ? TaxEngine.REST : random.nextInt(9);
    }

    private boolean step(String before) {
        return switch (random.nextInt(13)) {
            case 0, 1, 2, 3 -> changeLines(before);
            case 4 -> changeBrackets(before);
            case 5 -> changeYears(before);
            case 6 -> changeCredits(before);
            case 7, 8 -> askValue(before);
            case 9, 10 -> askLines(before);
            case 11 -> askAmounts(before);
            default -> askCredits(before);
        };
    }

    /** Makes a small circle, that later calls widen or break: LIMIT, REST, and a line between them. */
    private boolean makeCircle(String before) {
        int limit = random.nextInt(lines);
        int rest = random.nextInt(lines);
        int between = random.nextInt(lines);
        int kind = random.nextInt(3) == 0 ? TaxEngine.SHARE : random.nextInt(9);
        int second = kind == TaxEngine.SHARE ? number(0, 1000) : line();
        return define(before, rest, TaxEngine.REST, operand(true), limit)
            && define(before, between, kind, rest, second)
            && define(before, limit, TaxEngine.LIMIT, operand(true), between);
    }

    private boolean changeLines(String before) {
        if (random.nextInt(6) == 0) {
            return makeCircle(before);
        }
        int line = line();
        if (random.nextInt(4) == 0) {
            int value = number(0, most);
            return same(before + "answer(" + line + ", " + value + ")", () -> engine.answer(line, value), () -> naive.answer(line, value));
        }
        int kind = kind();
        int first = operand(kind == TaxEngine.LIMIT);
        int second = kind == TaxEngine.SHARE ? number(0, 1000) : operand(false);
        return define(before, line, kind, first, second);
    }

    private boolean define(String before, int line, int kind, int first, int second) {
        return same(before + "define(" + line + ", " + kind + ", " + first + ", " + second + ")", () -> {
            engine.define(line, kind, first, second);
            return 0;
        }, () -> {
            naive.define(line, kind, first, second);
            return 0;
        });
    }

    private boolean changeBrackets(String before) {
        if (random.nextInt(12) == 0) {
            return same(before + "dropBrackets()", engine::dropBrackets, naive::dropBrackets);
        }
        int threshold = number(0, most);
        int rate = number(0, 1000);
        return same(before + "bracket(" + threshold + ", " + rate + ")", () -> engine.bracket(threshold, rate), () -> naive.bracket(threshold, rate));
    }

    private boolean changeYears(String before) {
        if (random.nextInt(4) == 0) {
            return same(before + "closeYear()", engine::closeYear, naive::closeYear);
        }
        int amount = number(1, most);
        int last = random.nextInt(3) == 0 ? number(naive.year() - 1, naive.year() + 21) : number(naive.year(), naive.year() + 4);
        return same(before + "carry(" + amount + ", " + last + ")", () -> engine.carry(amount, last), () -> naive.carry(amount, last));
    }

    private boolean changeCredits(String before) {
        if (random.nextInt(4) == 0) {
            return same(before + "dropCredit()", engine::dropCredit, naive::dropCredit);
        }
        int amount = number(1, most);
        int worth = number(0, 1000);
        return same(before + "addCredit(" + amount + ", " + worth + ")", () -> engine.addCredit(amount, worth), () -> naive.addCredit(amount, worth));
    }

    private boolean askValue(String before) {
        int line = line();
        return same(before + "value(" + line + ")", () -> engine.value(line), () -> naive.value(line));
    }

    private boolean askLines(String before) {
        int line = line();
        int place = random.nextInt(60) == 0 ? edge() : random.nextInt(8);
        int other = line();
        int value = number(0, most);
        return switch (random.nextInt(5)) {
            case 0 -> same(before + "kindOf(" + line + ")", () -> engine.kindOf(line), () -> naive.kindOf(line));
            case 1 -> same(before + "influence(" + line + ")", () -> engine.influence(line), () -> naive.influence(line));
            case 2 -> same(before + "why(" + line + ", " + place + ")", () -> engine.why(line, place), () -> naive.why(line, place));
            case 3 -> same(before + "dependsOn(" + line + ", " + other + ")", () -> engine.dependsOn(line, other) ? 1 : 0,
                () -> naive.dependsOn(line, other) ? 1 : 0);
            default -> same(before + "boundFor(" + line + ", " + value + ")", () -> engine.boundFor(line, value), () -> naive.boundFor(line, value));
        };
    }

    private boolean askAmounts(String before) {
        int place = number(0, 8);
        int value = random.nextInt(3) == 0 ? number(0, 1000000000) : number(0, most);
        return switch (random.nextInt(4)) {
            case 0 -> same(before + "carried()", engine::carried, naive::carried);
            case 1 -> same(before + "carriedAt(" + place + ")", () -> engine.carriedAt(place), () -> naive.carriedAt(place));
            case 2 -> same(before + "year()", engine::year, naive::year);
            default -> same(before + "taxOn(" + value + ")", () -> engine.taxOn(value), () -> naive.taxOn(value));
        };
    }

    private boolean askCredits(String before) {
        int line = line();
        int place = number(0, 5);
        return switch (random.nextInt(3)) {
            case 0 -> same(before + "creditAt(" + line + ", " + place + ")", () -> engine.creditAt(line, place), () -> naive.creditAt(line, place));
            case 1 -> same(before + "afterCredits(" + line + ")", () -> engine.afterCredits(line), () -> naive.afterCredits(line));
            default -> same(before + "bestSum(" + line + ")", () -> engine.bestSum(line), () -> naive.bestSum(line));
        };
    }

    private static boolean same(String what, IntSupplier program, IntSupplier plain) {
        String got = answerOf(program);
        String want = answerOf(plain);
        Checks.due(what, got, want);
        return got.equals(want);
    }

    private static String answerOf(IntSupplier call) {
        try {
            return String.valueOf(call.getAsInt());
        } catch (RuntimeException e) {
            return "throws." + e.getClass().getSimpleName();
        }
    }
}
