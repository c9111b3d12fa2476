/** Promises 2, 5 and 6 where lines depend on themselves. */
public final class CirclesTest {
    private static final int MILLION = 1000000;
    private static final int BILLION = 1000000000;

    public static void main(String[] args) {
        value();
        valueWithAnyKind();
        valueAtTheEdges();
        valueAtTheEdgeLines();
        severalCircles();
        boundFor();
        boundForRefuses();
        boundForOutsideOfCircles();
        allowed();
        withoutLimit();
        twoLimits();
        firstOfTheCircle();
        innerCircle();
        directions();
        secondDoesNotFall();
        influenceAndWhy();
        Checks.end();
    }

    private static void value() {
        TaxEngine x = Checks.made(Samples::half);
        Checks.due("third", x.value(2), 333);
        Checks.due("rest", x.value(3), 667);
        Checks.due("half of the rest", x.value(4), 333);
        x.answer(1, 333);
        Checks.due("first is just as great", x.value(2), 333);
        x.answer(1, 332);
        Checks.due("first is less", x.value(2), 332);
        Checks.due("rest by that", x.value(3), 668);
        x.answer(1, 0);
        Checks.due("first is 0", x.value(2), 0);
        x.answer(1, 900);
        x.answer(0, 0);
        Checks.due("second is 0", x.value(2), 0);
        Checks.due("all circular", x.dependsOn(2, 2) && x.dependsOn(3, 3) && x.dependsOn(4, 4), true);
        Checks.due("inputs are not", x.dependsOn(0, 0) || x.dependsOn(1, 1), false);
    }

    private static void valueWithAnyKind() {
        TaxEngine x = new TaxEngine();
        x.answer(0, 1000);
        x.answer(1, 5000);
        x.bracket(0, 500);
        x.carry(30, 0);
        x.define(2, TaxEngine.LIMIT, 1, 9);
        x.define(3, TaxEngine.TAX, 2, 0);
        x.define(4, TaxEngine.CARRY, 2, 0);
        x.define(5, TaxEngine.SUM, 3, 4);
        x.define(6, TaxEngine.GREATER, 5, 2);
        x.define(7, TaxEngine.LESSER, 6, 0);
        x.define(8, TaxEngine.REST, 0, 7);
        x.define(9, TaxEngine.SHARE, 8, 1000);
        Checks.due("half", x.value(2), 500);
        x.define(6, TaxEngine.SUM, 5, 2);
        Checks.due("x + x/2 + 30 + x up to 1000", x.value(2), 388);
        Checks.due("what is left", x.value(9), 388);
        x.dropBrackets();
        Checks.due("2x + 30", x.value(2), 485);
        x.closeYear();
        Checks.due("2x", x.value(2), 500);
    }

    private static void valueAtTheEdges() {
        TaxEngine x = new TaxEngine();
        x.answer(0, MILLION);
        for (int line = 1; line < 11; line++) {
            x.define(line, TaxEngine.SUM, line - 1, line - 1);
        }
        x.define(12, TaxEngine.REST, 10, 11);
        x.define(11, TaxEngine.LIMIT, 10, 12);
        Checks.due("half of a billion", x.value(11), BILLION / 2);
        Checks.due("bound for 0", x.boundFor(11, 0), BILLION);
        Checks.due("bound for a billion", x.boundFor(11, BILLION), 0);
        x.define(12, TaxEngine.REST, 10, 13);
        x.define(13, TaxEngine.SHARE, 11, 0);
        Checks.due("a share of nothing", x.value(11), BILLION);
        x.define(13, TaxEngine.SHARE, 11, 1);
        Checks.due("a thousandth", x.value(11), 999000999);
        Checks.due("bound for one more", x.boundFor(11, 999001000), 999000999);
    }

    private static void valueAtTheEdgeLines() {
        TaxEngine x = new TaxEngine();
        x.answer(5, 90);
        x.answer(6, 1000);
        x.define(0, TaxEngine.REST, 5, 15);
        x.define(15, TaxEngine.LIMIT, 6, 0);
        Checks.due("line 0 is the rest", x.value(15), 45);
        Checks.due("line 0 depends on itself", x.dependsOn(0, 0), true);
        x.define(7, TaxEngine.REST, 5, 15);
        x.define(0, TaxEngine.SHARE, 7, 500);
        Checks.due("line 0 is between", x.value(15), 30);
        x.define(15, TaxEngine.LIMIT, 6, 7);
        x.define(0, TaxEngine.SUM, 15, 15);
        x.define(7, TaxEngine.REST, 5, 0);
        Checks.due("line 0 rises", x.value(15), 30);
        Checks.due("line 0 by that", x.value(0), 60);
        x.define(0, TaxEngine.INPUT, 0, 0);
        x.define(15, TaxEngine.REST, 5, 0);
        x.define(0, TaxEngine.LIMIT, 6, 15);
        Checks.due("line 0 is the limit", x.value(0), 45);
        Checks.due("line 15 is the rest", x.value(15), 45);
        x.answer(5, 91);
        Checks.due("the limit is rounded down", x.value(0), 45);
        Checks.due("the rest is one more", x.value(15), 46);
    }

    private static void severalCircles() {
        TaxEngine x = new TaxEngine();
        x.answer(1, 70);
        x.answer(3, 100);
        x.define(0, TaxEngine.LIMIT, 1, 2);
        x.define(2, TaxEngine.REST, 3, 0);
        x.define(15, TaxEngine.LIMIT, 2, 14);
        x.define(14, TaxEngine.REST, 13, 15);
        x.define(13, TaxEngine.SUM, 0, 0);
        Checks.due("the first circle", x.value(0), 50);
        Checks.due("the second circle uses it", x.value(15), 50);
        x.answer(1, 20);
        Checks.due("the first circle", x.value(0), 20);
        Checks.due("the second circle", x.value(15), 20);
        x.define(5, TaxEngine.LIMIT, 15, 4);
        x.define(4, TaxEngine.REST, 14, 6);
        x.define(6, TaxEngine.SUM, 5, 5);
        Checks.due("the third circle", x.value(5), 6);
        Checks.due("lines of one circle alone", x.dependsOn(2, 15), false);
        Checks.due("a circle depends on the one before", x.dependsOn(4, 0), true);
    }

    private static void boundFor() {
        TaxEngine x = Checks.made(Samples::half);
        int[][] bounds = {{0, 500}, {1, 499}, {2, 499}, {333, 333}, {334, 333}, {998, 1}, {999, 0}, {1000, 0}, {BILLION, 0}};
        for (int[] each : bounds) {
            Checks.due("bound for " + each[0], x.boundFor(2, each[0]), each[1]);
        }
        Checks.due("changes nothing", x.value(2), 333);
    }

    private static void boundForOutsideOfCircles() {
        TaxEngine x = new TaxEngine();
        x.answer(0, 5);
        x.answer(15, 9);
        x.define(7, TaxEngine.LIMIT, 0, 15);
        Checks.due("second", x.boundFor(7, 0), 9);
        Checks.due("second", x.boundFor(7, BILLION), 9);
        x.define(3, TaxEngine.LIMIT, 15, 15);
        Checks.due("the same line twice", x.value(3), 9);
        x.define(0, TaxEngine.LIMIT, 15, 3);
        Checks.due("a limit behind a limit", x.boundFor(7, 1), 9);
        Checks.due("a limit as first", x.boundFor(0, 1), 9);
    }

    private static void boundForRefuses() {
        Checks.noLine("line 16", Samples::half, x -> x.boundFor(16, 0));
        Checks.noLine("line before value", Samples::half, x -> x.boundFor(-1, -1));
        Checks.badArgument("value -1", Samples::half, x -> x.boundFor(2, -1));
        Checks.badArgument("value too great", Samples::half, x -> x.boundFor(2, BILLION + 1));
        Checks.badArgument("value before kind", Samples::half, x -> x.boundFor(3, -1));
        for (int line = 0; line < 16; line++) {
            int each = line;
            if (line != 2) {
                Checks.badState("no limit " + line, Samples::half, x -> x.boundFor(each, 0));
            }
        }
    }

    private static void allowed() {
        TaxEngine x = Checks.made(Samples::half);
        x.define(5, TaxEngine.SUM, 3, 3);
        x.define(4, TaxEngine.SHARE, 5, 500);
        Checks.due("the same falling line twice", x.value(2), 500);
        x.define(4, TaxEngine.LESSER, 3, 5);
        x.define(2, TaxEngine.LIMIT, 0, 4);
        Checks.due("first outside", x.value(2), 500);
        x.define(3, TaxEngine.INPUT, 0, 0);
        Checks.due("no circle any more", x.dependsOn(2, 2), false);
        Checks.due("nothing left", x.value(2), 0);
        TaxEngine y = new TaxEngine();
        y.answer(0, 100);
        y.answer(15, 1000);
        y.define(1, TaxEngine.REST, 0, 2);
        y.define(3, TaxEngine.REST, 0, 1);
        y.define(4, TaxEngine.SUM, 3, 2);
        y.define(5, TaxEngine.REST, 1, 4);
        y.define(2, TaxEngine.LIMIT, 15, 5);
        Checks.due("turned twice, a line rises: x <= 100 - x - 2x", y.value(2), 25);
    }

    private static void withoutLimit() {
        int[] kinds = {TaxEngine.SUM, TaxEngine.REST, TaxEngine.LESSER, TaxEngine.GREATER, TaxEngine.SHARE, TaxEngine.TAX, TaxEngine.CARRY};
        for (int kind : kinds) {
            Checks.badState("of itself", Samples::half, x -> x.define(15, kind, 15, 0));
            Checks.badState("of two", x -> x.define(14, TaxEngine.SUM, 0, 15), x -> x.define(15, kind, 14, 0));
            Checks.badState("instead of the limit", Samples::half, x -> x.define(2, kind, 4, 4));
        }
        Checks.badState("second operand", Samples::half, x -> x.define(15, TaxEngine.REST, 0, 15));
        Checks.badState("of all lines", CirclesTest::chain, x -> x.define(15, TaxEngine.SHARE, 0, 1000));
        TaxEngine x = Checks.made(CirclesTest::chain);
        x.define(15, TaxEngine.SHARE, 14, 0);
        x.define(0, TaxEngine.SHARE, 15, 0);
        Checks.due("the other way round", x.dependsOn(0, 14), true);
    }

    /** Lines 0 to 14 use the next one, but for 14, which is an input. */
    private static void chain(TaxEngine x) {
        for (int line = 0; line < 14; line++) {
            x.define(line, TaxEngine.SHARE, line + 1, 1000);
        }
        x.define(14, TaxEngine.INPUT, 0, 0);
        x.define(13, TaxEngine.SHARE, 15, 1000);
    }

    private static void twoLimits() {
        Checks.badState("both firsts outside", Samples::half, x -> x.define(3, TaxEngine.LIMIT, 0, 2));
        Checks.badState("first of the other one inside", x -> {
            x.answer(0, 10);
            x.define(2, TaxEngine.REST, 0, 1);
            x.define(3, TaxEngine.LESSER, 2, 0);
            x.define(1, TaxEngine.LIMIT, 0, 3);
        }, x -> x.define(3, TaxEngine.LIMIT, 2, 0));
        Checks.badState("joined circles", x -> {
            Samples.half(x);
            x.define(6, TaxEngine.LIMIT, 0, 7);
            x.define(7, TaxEngine.REST, 8, 6);
            x.define(8, TaxEngine.SUM, 0, 4);
        }, x -> x.define(4, TaxEngine.LESSER, 3, 7));
    }

    private static void firstOfTheCircle() {
        Checks.badState("first is of the circle", Samples::half, x -> x.define(2, TaxEngine.LIMIT, 4, 4));
        Checks.badState("first is of the circle", Samples::half, x -> x.define(2, TaxEngine.LIMIT, 3, 4));
        Checks.badState("first is the line", Samples::half, x -> x.define(2, TaxEngine.LIMIT, 2, 0));
        Checks.badState("first uses the line", Samples::half, x -> x.define(2, TaxEngine.LIMIT, 4, 0));
        Checks.badState("first gets to use the line", Samples::half, x -> x.define(1, TaxEngine.SHARE, 3, 10));
    }

    private static void innerCircle() {
        Checks.badState("an inner circle", x -> {
            Samples.half(x);
            x.define(5, TaxEngine.SUM, 3, 0);
            x.define(4, TaxEngine.SUM, 3, 5);
        }, x -> x.define(5, TaxEngine.SUM, 3, 4));
        Checks.badState("a line of the circle of itself", Samples::half, x -> x.define(4, TaxEngine.LESSER, 3, 4));
    }

    private static void directions() {
        int[] kinds = {TaxEngine.SUM, TaxEngine.LESSER, TaxEngine.GREATER};
        for (int kind : kinds) {
            Checks.badState("rises and falls", Samples::half, x -> x.define(4, kind, 3, 2));
            Checks.badState("rises and falls", Samples::half, x -> x.define(4, kind, 2, 3));
        }
        TaxEngine x = Checks.made(Samples::half);
        x.define(4, TaxEngine.REST, 3, 2);
        Checks.due("falls twice: x <= 1000 - 2x", x.value(2), 333);
        Checks.badState("rises twice", Samples::half, y -> y.define(4, TaxEngine.REST, 2, 3));
        Checks.badState("less itself", Samples::half, y -> y.define(4, TaxEngine.REST, 3, 3));
        Checks.badState("rises and falls aside of the second", y -> {
            Samples.half(y);
            y.define(5, TaxEngine.LESSER, 0, 2);
            y.define(4, TaxEngine.SUM, 3, 6);
        }, y -> y.define(6, TaxEngine.SHARE, 5, 0));
        Checks.badState("a line outside that joins", y -> {
            Samples.half(y);
            y.define(5, TaxEngine.SUM, 2, 3);
        }, y -> y.define(4, TaxEngine.SUM, 3, 5));
    }

    private static void secondDoesNotFall() {
        Checks.badState("the line itself", Samples::half, x -> x.define(15, TaxEngine.LIMIT, 0, 15));
        Checks.badState("the second rises", Samples::half, x -> x.define(3, TaxEngine.SUM, 0, 2));
        Checks.badState("the second rises", Samples::half, x -> x.define(3, TaxEngine.REST, 2, 0));
        Checks.badState("turned twice", Samples::half, x -> x.define(4, TaxEngine.REST, 0, 3));
        Checks.badState("a share of nothing rises too", Samples::half, x -> x.define(3, TaxEngine.SHARE, 2, 0));
    }

    private static void influenceAndWhy() {
        TaxEngine x = Checks.made(Samples::half);
        Checks.due("the rest and its half follow", x.influence(0), 3);
        Checks.due("influence of 1", x.influence(1), 1);
        LinesTest.row(x, 2, 2, 4, 3, 0);
        LinesTest.row(x, 4, 4, 3, 0, 2);
        x.answer(1, 100);
        Checks.due("the whole circle follows", x.influence(1), 4);
        LinesTest.row(x, 2, 2, 1);
        LinesTest.row(x, 3, 3, 0, 2, 1);
        x.answer(0, 1002);
        x.answer(1, 1000);
        Checks.due("334", x.value(2), 334);
        Checks.due("the rest alone follows", x.influence(0), 2);
        x.answer(0, 1001);
        Checks.due("the limit alone follows", x.influence(0), 2);
        x.answer(1, 334);
        x.answer(0, 2000);
        LinesTest.row(x, 2, 2, 1);
        TaxEngine y = Checks.made(Samples::half);
        y.answer(1, 5);
        y.answer(0, 9);
        y.define(4, TaxEngine.SUM, 3, 0);
        y.define(2, TaxEngine.LIMIT, 1, 3);
        Checks.due("neither its first nor its second", y.value(2), 4);
        LinesTest.row(y, 2, 2, 3, 0);
    }
}
