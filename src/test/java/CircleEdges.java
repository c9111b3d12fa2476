/** Edges of limits and circles, which stand under 'Lines'. */
final class CircleEdges {
    private static final int[] ALONG = {TaxEngine.SUM, TaxEngine.SHARE, TaxEngine.LESSER, TaxEngine.GREATER, TaxEngine.TAX, TaxEngine.CARRY};
    private static final int[] TWO_ALONG = {TaxEngine.SUM, TaxEngine.LESSER, TaxEngine.GREATER};
    private static final int MILLION = Samples.MILLION;
    private static final int BILLION = Samples.BILLION;

    private CircleEdges() {
    }

    static void tests(Sentences doc) {
        doc.under("Lines");
        limits(doc);
        conditions(doc);
        theseLines(doc);
        directions(doc);
        wellDetermined(doc);
    }

    // ---- the value of a limit

    private static void limits(Sentences doc) {
        doc.test("LIMIT: the greatest number x that is not above the value of the line first", () -> {
            checkHalf(1000, 0, 0);
            checkHalf(1000, 1, 1);
            checkHalf(1000, 499, 499);
            checkHalf(1000, 500, 500);
            checkHalf(1000, 501, 500);
            checkLimitOfInputs(6, 7, 6);
            checkLimitOfInputs(7, 7, 7);
            checkLimitOfInputs(0, MILLION, 0);
            checkLimitOfInputs(MILLION, MILLION, MILLION);
        });
        doc.test("such that x is not above the value that the line second has when this line has the value x", () -> {
            checkHalf(0, MILLION, 0);
            checkHalf(1, MILLION, 0);
            checkHalf(2, MILLION, 1);
            checkHalf(999, MILLION, 499);
            checkHalf(1000, MILLION, 500);
            checkHalf(1001, MILLION, 500);
            checkHalf(MILLION, MILLION, MILLION / 2);
            checkLimitOfInputs(7, 6, 6);
            checkLimitOfInputs(MILLION, 0, 0);
        });
        doc.test("LIMIT: the greatest number x", () -> {
            TaxEngine x = Checks.made(Samples::billion);
            x.define(12, TaxEngine.REST, 11, 13);
            x.define(13, TaxEngine.LIMIT, 11, 12);
            Checks.due("half of a billion", x.value(13), BILLION / 2);
            x.define(14, TaxEngine.SHARE, 13, 0);
            x.define(12, TaxEngine.REST, 11, 14);
            Checks.due("all of a billion", x.value(13), BILLION);
            x.define(14, TaxEngine.SHARE, 13, 1);
            Checks.due("the last one before the bound is less", x.value(13), 999000999);
        });
    }

    /** A limit of what it leaves. */
    private static void checkHalf(int whole, int most, int due) {
        TaxEngine x = new TaxEngine();
        x.answer(14, whole);
        x.answer(15, most);
        x.define(0, TaxEngine.REST, 14, 1);
        x.define(1, TaxEngine.LIMIT, 15, 0);
        Checks.due("of " + whole + ", at most " + most, x.value(1), due);
        Checks.due("what it leaves", x.value(0), whole - due);
    }

    private static void checkLimitOfInputs(int first, int second, int due) {
        TaxEngine x = new TaxEngine();
        x.answer(14, first);
        x.answer(15, second);
        x.define(0, TaxEngine.LIMIT, 14, 15);
        Checks.due("of inputs " + first + " and " + second, x.value(0), due);
    }

    // ---- the conditions, each for itself

    private static void conditions(Sentences doc) {
        doc.test("Circles are allowed only through limits.", () -> {
            for (int kind = TaxEngine.SUM; kind < TaxEngine.LIMIT; kind++) {
                int each = kind;
                Checks.badState("of itself", Samples::empty, x -> x.define(0, each, 0, 1));
                Checks.badState("of two lines", x -> x.define(15, TaxEngine.SHARE, 0, 500), x -> x.define(0, each, 15, 1));
                Checks.badState("in place of the limit", Samples::half, x -> x.define(2, each, 4, 1));
            }
            for (int kind : new int[] {TaxEngine.SUM, TaxEngine.REST, TaxEngine.LESSER, TaxEngine.GREATER}) {
                Checks.badState("by second", Samples::empty, x -> x.define(15, kind, 0, 15));
            }
            Checks.taken("through a limit", Samples::half, x -> Checks.due("circular", x.dependsOn(2, 2), true));
        });
        doc.test("just one of them has to be a LIMIT", () -> {
            Checks.badState("none", Samples::fifteen, x -> x.define(0, TaxEngine.SHARE, 1, 1000));
            Checks.badState("two, one behind the other", Samples::half, x -> x.define(3, TaxEngine.LIMIT, 0, 2));
            for (int side : new int[] {2, 13}) {
                Checks.badState("two side by side", x -> sideBySide(x, side), x -> x.define(side, TaxEngine.LIMIT, 0, 8));
                Checks.taken("one", x -> sideBySide(x, side), x -> x.define(side, TaxEngine.LESSER, 0, 8));
            }
            for (int end : new int[] {0, 15}) {
                Checks.badState("two, one of them line " + end, x -> behind(x, end), x -> x.define(7, TaxEngine.LIMIT, 14, 8));
                Checks.badState("two, the later one line " + end, x -> aheadOf(x, end), x -> x.define(end, TaxEngine.LIMIT, 14, 8));
                Checks.taken("one, line " + end, x -> behind(x, end), x -> x.define(7, TaxEngine.LESSER, 14, 8));
            }
            Checks.badState("two, where first of the second is of the circle", Samples::half, x -> x.define(4, TaxEngine.LIMIT, 3, 0));
            Checks.badState("two circles become one", CircleEdges::twoCircles, x -> x.define(0, TaxEngine.REST, 15, 5));
        });
        doc.test("the line first of which is none of them", () -> {
            Checks.badState("first is the line itself", Samples::empty, x -> x.define(0, TaxEngine.LIMIT, 0, 1));
            Checks.badState("first is second", Samples::half, x -> x.define(2, TaxEngine.LIMIT, 4, 4));
            Checks.badState("first is between", Samples::half, x -> x.define(2, TaxEngine.LIMIT, 3, 4));
            Checks.badState("first alone uses the line", Samples::half, x -> x.define(2, TaxEngine.LIMIT, 4, 0));
            Checks.badState("first comes into the circle", Samples::half, x -> x.define(1, TaxEngine.SHARE, 3, 0));
            Checks.taken("first is of none", Samples::half, x -> x.define(2, TaxEngine.LIMIT, 15, 4));
        });
        doc.test("without the use of its line second by this LIMIT, none of these lines may depend on itself", () -> {
            Checks.badState("a line of the circle uses itself", Samples::half, x -> x.define(4, TaxEngine.LESSER, 3, 4));
            Checks.badState("two lines of the circle use one another", x -> {
                Samples.half(x);
                x.define(5, TaxEngine.SHARE, 3, 10);
                x.define(4, TaxEngine.SUM, 3, 5);
            }, x -> x.define(5, TaxEngine.SUM, 3, 4));
        });
        doc.test("and its line second has to fall with it", () -> {
            Checks.badState("second is the line itself", Samples::empty, x -> x.define(0, TaxEngine.LIMIT, 15, 0));
            for (int kind : ALONG) {
                Checks.badState("second rises", x -> x.define(14, kind, 0, 13), x -> x.define(0, TaxEngine.LIMIT, 15, 14));
            }
            Checks.badState("second rises", x -> x.define(14, TaxEngine.REST, 0, 13), x -> x.define(0, TaxEngine.LIMIT, 15, 14));
            Checks.taken("second falls", x -> x.define(14, TaxEngine.REST, 13, 0), x -> x.define(0, TaxEngine.LIMIT, 15, 14));
        });
    }

    /** 7 = LIMIT(1, 9), 8 = 0 less 7, and 9 is the lesser one of 8 and of a side line, which uses 8 too. */
    private static void sideBySide(TaxEngine x, int side) {
        x.define(8, TaxEngine.REST, 0, 7);
        x.define(side, TaxEngine.SHARE, 8, 100);
        x.define(9, TaxEngine.LESSER, 8, side);
        x.define(7, TaxEngine.LIMIT, 1, 9);
    }

    /** The limit is LIMIT(13, 7), 7 is all of 8, and 8 = 14 less the limit. */
    private static void behind(TaxEngine x, int limit) {
        x.define(7, TaxEngine.SHARE, 8, 1000);
        x.define(8, TaxEngine.REST, 14, limit);
        x.define(limit, TaxEngine.LIMIT, 13, 7);
    }

    /** The same the other way round: 7 is the limit, and the line is between. */
    private static void aheadOf(TaxEngine x, int line) {
        x.define(line, TaxEngine.SHARE, 8, 1000);
        x.define(8, TaxEngine.REST, 14, 7);
        x.define(7, TaxEngine.LIMIT, 13, line);
    }

    /** 2 = LIMIT(1, 3), 3 = 0 less 2; and, behind it, 5 = LIMIT(1, 6), 6 = 3 less 5. */
    private static void twoCircles(TaxEngine x) {
        x.answer(0, 100);
        x.answer(1, 1000);
        x.define(3, TaxEngine.REST, 0, 2);
        x.define(2, TaxEngine.LIMIT, 1, 3);
        x.define(6, TaxEngine.REST, 3, 5);
        x.define(5, TaxEngine.LIMIT, 1, 6);
    }

    // ---- which lines are looked at

    private static void theseLines(Sentences doc) {
        doc.test("For each circular line L", () -> {
            Checks.badState("a second circle that is not allowed", Samples::half, x -> x.define(15, TaxEngine.SHARE, 15, 0));
            Checks.badState("ahead of the first one", Samples::half, x -> x.define(0, TaxEngine.SUM, 0, 1));
            Checks.badState("behind the first one", Samples::half, x -> x.define(5, TaxEngine.LIMIT, 2, 5));
            TaxEngine x = Checks.made(CircleEdges::twoCircles);
            Checks.due("the first of two", x.value(2), 50);
            Checks.due("the second of two", x.value(5), 25);
        });
        doc.test("look at the lines that depend on L and on which L depends", () -> {
            Checks.taken("limits that only use the circle", Samples::half, x -> {
                x.define(5, TaxEngine.LIMIT, 2, 3);
                x.define(6, TaxEngine.LIMIT, 4, 4);
                Checks.due("a line behind it rises and falls", x.value(5), 333);
            });
            Checks.taken("limits that the circle only uses", Samples::half, x -> {
                x.define(0, TaxEngine.LIMIT, 14, 15);
                x.define(1, TaxEngine.LIMIT, 15, 14);
                Checks.due("of inputs that are 0", x.value(2), 0);
            });
        });
        doc.test("(L is one of them)", () -> {
            TaxEngine x = Checks.made(Samples::fifteen);
            Checks.due("as many lines in one circle as there can be", circularLines(x), 15);
            x.answer(15, 1001);
            Checks.due("its value", x.value(0), 500);
            Checks.due("its last line", x.value(14), 501);
            Checks.badState("a 16th line would be first", Samples::fifteen, y -> y.define(15, TaxEngine.SHARE, 1, 1000));
            TaxEngine y = Checks.made(CircleEdges::sevenCircles);
            Checks.due("as many circles as there can be with two inputs", circularLines(y), 14);
            for (int line = 0; line < 14; line += 2) {
                Checks.due("value " + line, y.value(line), new int[] {64, 32, 16, 8, 4, 2, 1}[line / 2]);
            }
        });
    }

    /** Seven circles of two lines, each of which uses the one before. */
    private static void sevenCircles(TaxEngine x) {
        x.answer(14, 128);
        x.answer(15, 1000);
        for (int line = 0; line < 14; line += 2) {
            x.define(line + 1, TaxEngine.REST, line == 0 ? 14 : line - 2, line);
            x.define(line, TaxEngine.LIMIT, 15, line + 1);
        }
    }

    private static int circularLines(TaxEngine x) {
        int count = 0;
        for (int line = 0; line < 16; line++) {
            count += x.dependsOn(line, line) ? 1 : 0;
        }
        return count;
    }

    // ---- what rises and what falls

    private static void directions(Sentences doc) {
        doc.test("along the uses among these lines", () -> {
            TaxEngine x = Checks.made(Samples::half);
            x.define(5, TaxEngine.SUM, 2, 3);
            Checks.due("a line aside rises and falls, but nothing of the circle uses it", x.value(5), 1000);
            x.define(6, TaxEngine.REST, 0, 15);
            x.define(4, TaxEngine.LESSER, 3, 6);
            Checks.due("a line of no circle neither rises nor falls", x.value(2), 500);
        });
        doc.test("the LIMIT rises with itself", () -> {
            checkOpen("its rest falls", true, x -> x.define(14, TaxEngine.REST, 13, 0));
            checkOpen("its share rises", false, x -> x.define(14, TaxEngine.SHARE, 0, 1000));
            checkOpen("a share of 0 rises too", false, x -> x.define(14, TaxEngine.SHARE, 0, 0));
        });
        doc.test("A line that uses a line which rises, rises", () -> {
            for (int kind : ALONG) {
                checkRises("by first, kind " + kind, x -> x.define(1, kind, 0, 13));
            }
            for (int kind : TWO_ALONG) {
                checkRises("by second, kind " + kind, x -> x.define(1, kind, 13, 0));
                checkRises("by both, kind " + kind, x -> x.define(1, kind, 0, 0));
            }
            checkRises("REST by first", x -> x.define(1, TaxEngine.REST, 0, 13));
        });
        doc.test("and one that uses a line which falls, falls", () -> {
            for (int kind : ALONG) {
                checkFalls("by first, kind " + kind, x -> x.define(1, kind, 2, 13));
            }
            for (int kind : TWO_ALONG) {
                checkFalls("by second, kind " + kind, x -> x.define(1, kind, 13, 2));
                checkFalls("by both, kind " + kind, x -> x.define(1, kind, 2, 2));
            }
            checkFalls("REST by first", x -> x.define(1, TaxEngine.REST, 2, 13));
        });
        doc.test("but a REST falls by its second operand where that rises", () -> {
            checkFalls("by a line that rises", x -> x.define(1, TaxEngine.REST, 13, 0));
            checkFalls("by both", x -> x.define(1, TaxEngine.REST, 2, 0));
        });
        doc.test("and rises where that falls", () -> {
            checkRises("by a line that falls", x -> x.define(1, TaxEngine.REST, 13, 2));
            checkRises("by both", x -> x.define(1, TaxEngine.REST, 0, 2));
        });
        doc.test("No line may rise and fall at the same time.", CircleEdges::risingAndFalling);
        doc.test("at the same time", CircleEdges::risingAfterFalling);
    }

    private static void risingAndFalling() {
        for (int kind : TWO_ALONG) {
            checkOpen("second does both, kind " + kind, false, x -> x.define(14, kind, 0, 2));
            checkOpen("second does both, kind " + kind, false, x -> x.define(14, kind, 2, 0));
        }
        checkOpen("a REST of what rises", false, x -> x.define(14, TaxEngine.REST, 0, 0));
        checkOpen("a REST of what falls", false, x -> x.define(14, TaxEngine.REST, 2, 2));
        checkOpen("a line between does both", false, x -> {
            x.define(1, TaxEngine.SUM, 0, 2);
            x.define(14, TaxEngine.REST, 13, 1);
        });
        checkOpen("by way of two lines", false, x -> {
            x.define(1, TaxEngine.SHARE, 0, 0);
            x.define(3, TaxEngine.REST, 13, 2);
            x.define(4, TaxEngine.REST, 13, 3);
            x.define(14, TaxEngine.LESSER, 1, 4);
        });
        checkOpen("two lines rise, and the first one falls when turned", false, x -> {
            x.define(1, TaxEngine.SHARE, 0, 0);
            x.define(3, TaxEngine.REST, 13, 1);
            x.define(5, TaxEngine.SHARE, 0, 0);
            x.define(14, TaxEngine.SUM, 5, 3);
        });
        checkOpen("a line between does both, and its rest does not show it", false, x -> {
            x.define(3, TaxEngine.REST, 13, 0);
            x.define(4, TaxEngine.LESSER, 2, 5);
            x.define(5, TaxEngine.SHARE, 0, 0);
            x.define(14, TaxEngine.REST, 3, 4);
        });
        checkOpen("what falls twice only falls", true, x -> {
            x.define(1, TaxEngine.SUM, 2, 2);
            x.define(14, TaxEngine.LESSER, 2, 1);
        });
    }

    /** What a line did in a circle that stands no more, or that was refused, does not count. */
    private static void risingAfterFalling() {
        TaxEngine x = new TaxEngine();
        x.answer(13, 1000);
        x.answer(15, 900);
        x.define(2, TaxEngine.REST, 13, 0);
        x.define(14, TaxEngine.REST, 2, 0);
        x.define(0, TaxEngine.LIMIT, 15, 14);
        Checks.due("line 2 falls: x <= 1000 - 2x", x.value(0), 333);
        Checks.due("refused, line 14 would rise", Checks.thrownBy(x, y -> y.define(14, TaxEngine.REST, 13, 2)), "java.lang.IllegalStateException");
        x.define(0, TaxEngine.INPUT, 0, 0);
        x.define(2, TaxEngine.SHARE, 0, 1000);
        x.define(14, TaxEngine.REST, 13, 2);
        x.define(0, TaxEngine.LIMIT, 15, 14);
        Checks.due("line 2 rises: x <= 1000 - x", x.value(0), 500);
        Checks.due("refused, line 14 would do both", Checks.thrownBy(x, y -> y.define(14, TaxEngine.REST, 0, 2)), "java.lang.IllegalStateException");
        x.define(14, TaxEngine.REST, 13, 0);
        Checks.due("line 14 falls by another one", x.value(0), 500);
    }

    /** Line 0 rises and line 2 falls with it; the recipe makes line 14, by which line 0 may become a LIMIT, or not. */
    private static void checkOpen(String what, boolean allowed, Checks.Call recipe) {
        Checks.Call open = x -> {
            x.answer(13, 1000);
            x.answer(15, 900);
            x.define(2, TaxEngine.REST, 13, 0);
            recipe.on(x);
        };
        Checks.Call close = x -> x.define(0, TaxEngine.LIMIT, 15, 14);
        if (allowed) {
            Checks.taken(what, open, close);
        } else {
            Checks.badState(what, open, close);
        }
    }

    /** The recipe makes line 1 rise: then it can't be the second of the LIMIT, but what it leaves can. */
    private static void checkRises(String what, Checks.Call recipe) {
        checkOpen(what, false, x -> {
            recipe.on(x);
            x.define(14, TaxEngine.SHARE, 1, 1000);
        });
        checkOpen(what + ", turned", true, x -> {
            recipe.on(x);
            x.define(14, TaxEngine.REST, 13, 1);
        });
    }

    private static void checkFalls(String what, Checks.Call recipe) {
        checkOpen(what, true, x -> {
            recipe.on(x);
            x.define(14, TaxEngine.SHARE, 1, 1000);
        });
        checkOpen(what + ", turned", false, x -> {
            recipe.on(x);
            x.define(14, TaxEngine.REST, 13, 1);
        });
    }

    // ---- the greatest x

    /** In circles of every kind of line: what is not above the line first and not above its bound is all below the value. */
    private static void wellDetermined(Sentences doc) {
        doc.test("Then the greatest x is well determined.", () -> {
            for (int kind : ALONG) {
                checkGreatest(kind, 0);
                checkGreatest(kind, 2);
            }
        });
    }

    private static void checkGreatest(int kind, int of) {
        for (int most : new int[] {0, 1, 30, 100}) {
            TaxEngine x = new TaxEngine();
            x.answer(13, 60);
            x.answer(15, most);
            x.bracket(0, 700);
            x.bracket(20, 333);
            x.carry(25, 20);
            x.define(2, TaxEngine.REST, 13, 0);
            x.define(1, kind, of, kind == TaxEngine.SHARE ? 300 : 13);
            x.define(14, of == 0 ? TaxEngine.REST : TaxEngine.LESSER, of == 0 ? 13 : 1, of == 0 ? 1 : 2);
            x.define(0, TaxEngine.LIMIT, 15, 14);
            int greatest = 0;
            for (int number = 0; number <= most; number++) {
                greatest = number <= x.boundFor(0, number) ? number : greatest;
            }
            Checks.due("kind " + kind + " of line " + of + ", at most " + most, x.value(0), greatest);
            Checks.due("its bound", x.boundFor(0, x.value(0)), x.value(14));
        }
    }
}
