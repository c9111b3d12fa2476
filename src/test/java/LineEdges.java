/** Edges of lines and of their values, and promises 1 to 3; circles stand in CircleEdges. */
final class LineEdges {
    private static final int[] TWO_LINES = {TaxEngine.SUM, TaxEngine.REST, TaxEngine.LESSER, TaxEngine.GREATER, TaxEngine.LIMIT};
    private static final int[] ONE_LINE = {TaxEngine.SHARE, TaxEngine.TAX, TaxEngine.CARRY};
    private static final int MILLION = Samples.MILLION;
    private static final int BILLION = Samples.BILLION;

    private LineEdges() {
    }

    static void tests(Sentences doc) {
        doc.under("Lines");
        lines(doc);
        values(doc);
        uses(doc);
        doc.under("Promise 1: A new object");
        doc.test("Makes an engine of inputs, without brackets, carried amounts and credits.", LineEdges::newObject);
        doc.under("Promise 2: define");
        define(doc);
        defineThrows(doc);
        doc.under("Promise 3: answer");
        answer(doc);
    }

    // ---- terms

    private static void lines(Sentences doc) {
        doc.test("There are 16 lines, 0 to 15.", () -> {
            TaxEngine x = new TaxEngine();
            for (int line = 0; line < 16; line++) {
                x.answer(line, 100 + line);
            }
            for (int line = 0; line < 16; line++) {
                Checks.due("each line has its own answer", x.value(line), 100 + line);
            }
            Checks.due("line 16", Checks.thrownBy(x, y -> y.value(16)), "java.lang.IndexOutOfBoundsException");
            Checks.due("line -1", Checks.thrownBy(x, y -> y.value(-1)), "java.lang.IndexOutOfBoundsException");
        });
        doc.test("A line has a kind and, as its kind asks for, one or two operands; at first each is an INPUT.", () -> {
            for (int line = 0; line < 16; line++) {
                Checks.due("at first", new TaxEngine().kindOf(line), TaxEngine.INPUT);
            }
            for (int kind : TWO_LINES) {
                Checks.due("two operands", usedBy(kind, 14, 15), "14 15");
            }
            for (int kind : ONE_LINE) {
                Checks.due("one operand", usedBy(kind, 14, 15), "14");
            }
        });
        doc.test("Its value is a whole number from 0 to 1000000000:", () -> {
            for (int kind : new int[] {TaxEngine.SUM, TaxEngine.LESSER, TaxEngine.GREATER, TaxEngine.LIMIT, TaxEngine.TAX}) {
                Checks.due("the greatest value", ofGreatLines(kind, 11, 11), BILLION);
                Checks.due("the least value", ofGreatLines(kind, 15, 15), 0);
            }
            Checks.due("the greatest REST", ofGreatLines(TaxEngine.REST, 11, 15), BILLION);
            Checks.due("the least REST", ofGreatLines(TaxEngine.REST, 15, 11), 0);
            Checks.due("the greatest SHARE", ofGreatLines(TaxEngine.SHARE, 11, 1000), BILLION);
            Checks.due("the least SHARE", ofGreatLines(TaxEngine.SHARE, 11, 0), 0);
        });
    }

    private static void values(Sentences doc) {
        doc.test("INPUT: the answer that was given for it, 0 at first.", () -> {
            TaxEngine x = new TaxEngine();
            Checks.due("at first", x.value(0) + x.value(15), 0);
            x.answer(15, MILLION);
            Checks.due("the greatest answer", x.value(15), MILLION);
            Checks.due("another line", x.value(14), 0);
            x.answer(15, 0);
            Checks.due("0 again", x.value(15), 0);
        });
        doc.test("SUM: the values of the lines first and second, together, but at most 1000000000.", LineEdges::sums);
        doc.test("REST: the value of the line first less that of the line second, but at least 0.", () -> {
            int[][] rests = {{0, 0, 0}, {1, 0, 1}, {0, 1, 0}, {7, 6, 1}, {7, 7, 0}, {6, 7, 0}, {0, MILLION, 0}, {MILLION, 0, MILLION}};
            checkPairs(TaxEngine.REST, rests);
            Checks.due("0 less a billion", ofGreatLines(TaxEngine.REST, 15, 11), 0);
            Checks.due("a billion less half of it", ofGreatLines(TaxEngine.REST, 11, 10), BILLION / 2);
            Checks.due("less than the half of it", ofGreatLines(TaxEngine.REST, 10, 11), 0);
        });
        doc.test("SHARE: the value of the line first, multiplied by second, in thousandths, and rounded down.", LineEdges::shares);
        doc.test("LESSER, GREATER: the lesser one, the greater one of the values of the lines first and second.", () -> {
            checkPairs(TaxEngine.LESSER, new int[][] {{0, 0, 0}, {0, 1, 0}, {1, 0, 0}, {6, 7, 6}, {7, 7, 7}, {7, 6, 6}, {0, MILLION, 0}});
            checkPairs(TaxEngine.GREATER, new int[][] {{0, 0, 0}, {0, 1, 1}, {1, 0, 1}, {6, 7, 7}, {7, 7, 7}, {7, 6, 7}, {0, MILLION, MILLION}});
            Checks.due("the lesser one", ofGreatLines(TaxEngine.LESSER, 11, 10), BILLION / 2);
            Checks.due("the greater one", ofGreatLines(TaxEngine.GREATER, 10, 11), BILLION);
        });
        doc.test("TAX: the tax on the value of the line first, by the brackets.", () -> {
            TaxEngine x = Checks.made(Samples::billion);
            x.define(12, TaxEngine.TAX, 11, 0);
            Checks.due("without brackets", x.value(12), 0);
            x.bracket(MILLION, 1000);
            Checks.due("on a billion", x.value(12), BILLION - MILLION);
            x.bracket(0, 1000);
            Checks.due("all of a billion", x.value(12), BILLION);
            x.define(12, TaxEngine.TAX, 15, 0);
            Checks.due("on 0", x.value(12), 0);
            x.answer(15, 1);
            Checks.due("on 1", x.value(12), 1);
        });
        doc.test("CARRY: the lesser one of the value of the line first and of all that is carried and has not expired.", LineEdges::carries);
    }

    private static void sums() {
        TaxEngine x = Checks.made(Samples::billion);
        Checks.due("just a billion", x.value(11), BILLION);
        x.answer(12, 1);
        x.define(13, TaxEngine.REST, 11, 12);
        Checks.due("a billion less 1", x.value(13), BILLION - 1);
        x.define(14, TaxEngine.SUM, 13, 15);
        Checks.due("one below the most", x.value(14), BILLION - 1);
        x.answer(15, 1);
        Checks.due("the most", x.value(14), BILLION);
        x.answer(15, 2);
        Checks.due("one too many", x.value(14), BILLION);
        x.define(14, TaxEngine.SUM, 11, 11);
        Checks.due("two billions", x.value(14), BILLION);
        x.define(13, TaxEngine.SUM, 14, 11);
        Checks.due("a sum that was cut, and a billion", x.value(13), BILLION);
        checkPairs(TaxEngine.SUM, new int[][] {{0, 0, 0}, {0, 1, 1}, {1, 0, 1}, {MILLION, MILLION, 2 * MILLION}});
    }

    private static void shares() {
        int[][] shares = {{0, 1000, 0}, {1, 999, 0}, {1, 1000, 1}, {999, 1, 0}, {1000, 1, 1}, {1999, 1, 1}, {2000, 1, 2},
            {MILLION, 0, 0}, {MILLION, 1, 1000}, {999999, 999, 998999}, {MILLION, 1000, MILLION}};
        for (int[] each : shares) {
            TaxEngine x = new TaxEngine();
            x.answer(15, each[0]);
            x.define(0, TaxEngine.SHARE, 15, each[1]);
            Checks.due(each[1] + " thousandths of " + each[0], x.value(0), each[2]);
        }
        Checks.due("a thousandth of a billion", ofGreatLines(TaxEngine.SHARE, 11, 1), MILLION);
        Checks.due("almost a billion", ofGreatLines(TaxEngine.SHARE, 11, 999), 999 * MILLION);
        Checks.due("all of a billion", ofGreatLines(TaxEngine.SHARE, 11, 1000), BILLION);
    }

    private static void carries() {
        TaxEngine x = new TaxEngine();
        x.define(0, TaxEngine.CARRY, 15, 0);
        Checks.due("0, and nothing is carried", x.value(0), 0);
        x.answer(15, MILLION);
        Checks.due("nothing is carried", x.value(0), 0);
        x.carry(MILLION - 1, 0);
        Checks.due("one less is carried", x.value(0), MILLION - 1);
        x.carry(1, 1);
        Checks.due("as much is carried", x.value(0), MILLION);
        x.carry(1, 1);
        Checks.due("one more is carried", x.value(0), MILLION);
        x.answer(15, 0);
        Checks.due("of 0", x.value(0), 0);
        x.closeYear();
        x.answer(15, MILLION);
        Checks.due("has not expired in its last year", x.value(0), 2);
        x.define(0, TaxEngine.INPUT, 0, 0);
        x.closeYear();
        x.define(0, TaxEngine.CARRY, 15, 0);
        Checks.due("has expired after it", x.value(0), 0);
        TaxEngine y = Checks.made(Samples::billion);
        for (int amount = 0; amount < 8; amount++) {
            y.carry(MILLION, 20);
        }
        y.define(12, TaxEngine.CARRY, 11, 0);
        Checks.due("of a billion, all that can be carried", y.value(12), 8 * MILLION);
    }

    private static void uses(Sentences doc) {
        doc.test("A line uses its operands that are lines.", () -> {
            for (int kind : TWO_LINES) {
                Checks.due("both of kind " + kind, usedBy(kind, 0, 15), "0 15");
                Checks.due("the same line twice", usedBy(kind, 15, 15), "15");
            }
            for (int kind : ONE_LINE) {
                Checks.due("first of kind " + kind, usedBy(kind, 15, 0), "15");
                Checks.due("second is no line", usedBy(kind, 0, 15), "0");
            }
            Checks.due("an INPUT uses none", usedBy(TaxEngine.INPUT, 0, 15), "");
        });
        doc.test("It depends on the lines it uses, on those they use, and so on.", () -> {
            TaxEngine x = Checks.made(LineEdges::chain);
            for (int line = 0; line < 16; line++) {
                for (int other = 0; other < 16; other++) {
                    Checks.due(line + " on " + other, x.dependsOn(line, other), line < other);
                }
            }
            x.answer(15, MILLION);
            Checks.due("the value of the last one, handed on 15 times", x.value(0), MILLION);
            TaxEngine y = Checks.made(LineEdges::chainBack);
            for (int line = 0; line < 16; line++) {
                for (int other = 0; other < 16; other++) {
                    Checks.due(line + " on " + other + ", the other way round", y.dependsOn(line, other), other < line);
                }
            }
        });
        doc.test("A line is circular if it depends on itself.", () -> {
            TaxEngine x = Checks.made(Samples::fifteen);
            for (int line = 0; line < 15; line++) {
                Checks.due("line " + line + " of the circle", x.dependsOn(line, line), true);
            }
            Checks.due("the line that the circle uses", x.dependsOn(15, 15), false);
            x.define(14, TaxEngine.SHARE, 15, 0);
            Checks.due("the circle is open", x.dependsOn(0, 0) || x.dependsOn(14, 14), false);
        });
    }

    // ---- promises 1 to 3

    private static void newObject() {
        TaxEngine x = new TaxEngine();
        for (int line = 0; line < 16; line++) {
            Checks.due("kindOf", x.kindOf(line), TaxEngine.INPUT);
            Checks.due("value", x.value(line), 0);
            Checks.due("answer", x.answer(line, 0), 0);
            Checks.due("influence", x.influence(line), 1);
            Checks.due("why", x.why(line, 0), line);
            Checks.due("why", x.why(line, 1), TaxEngine.NONE);
            Checks.due("boundFor", Checks.thrownBy(x, y -> y.boundFor(0, 0)), "java.lang.IllegalStateException");
            Checks.due("dependsOn", x.dependsOn(line, 0) || x.dependsOn(line, 15), false);
            Checks.due("afterCredits", x.afterCredits(line), 0);
            Checks.due("bestSum", x.bestSum(line), 0);
            Checks.due("creditAt", Checks.thrownBy(x, y -> y.creditAt(0, 0)), "java.lang.IndexOutOfBoundsException");
        }
        Checks.due("as the first call, dropBrackets", new TaxEngine().dropBrackets(), 0);
        Checks.due("as the first call, taxOn", new TaxEngine().taxOn(BILLION), 0);
        Checks.due("as the first call, carried", new TaxEngine().carried(), 0);
        Checks.due("as the first call, carriedAt", Checks.thrownBy(new TaxEngine(), y -> y.carriedAt(0)), "java.lang.IndexOutOfBoundsException");
        Checks.due("as the first call, year", new TaxEngine().year(), 0);
        Checks.due("as the first call, closeYear", new TaxEngine().closeYear(), 0);
        Checks.due("as the first call, dropCredit", Checks.thrownBy(new TaxEngine(), TaxEngine::dropCredit), "java.lang.IllegalStateException");
    }

    private static void define(Sentences doc) {
        doc.test("Defines a line anew.", () -> {
            TaxEngine x = Checks.made(Samples::everyKind);
            x.define(9, TaxEngine.SUM, 0, 1);
            Checks.due("the circle is gone", x.dependsOn(9, 9), false);
            Checks.due("another kind", x.value(9), 1300);
            x.define(9, TaxEngine.SUM, 15, 15);
            Checks.due("other operands", x.value(9), 154);
            x.define(9, TaxEngine.INPUT, 0, 0);
            Checks.due("an input again", x.value(9), 0);
            x.define(9, TaxEngine.LIMIT, 0, 10);
            Checks.due("the circle again", x.value(9), 150);
        });
        doc.test("line: 0 to 15", () -> {
            Checks.lineRange(Samples::empty, (x, line) -> x.define(line, TaxEngine.SUM, 7, 8));
            TaxEngine x = Checks.made(y -> y.answer(7, 3));
            x.define(0, TaxEngine.SUM, 7, 7);
            x.define(15, TaxEngine.SUM, 0, 7);
            Checks.due("line 0", x.value(0), 6);
            Checks.due("line 15", x.value(15), 9);
        });
        doc.test("kind: INPUT to LIMIT", () -> {
            Checks.argumentRange(TaxEngine.INPUT, TaxEngine.LIMIT, Samples::everyKind, (x, kind) -> x.define(12, kind, 0, 1));
        });
        doc.test("first: a line, 0 to 15; of no meaning for INPUT", () -> {
            for (int kind = TaxEngine.SUM; kind <= TaxEngine.LIMIT; kind++) {
                int each = kind;
                Checks.lineRange(Samples::empty, (x, first) -> x.define(7, each, first, 1));
            }
            for (int none : new int[] {-1, 16, Samples.LOWEST, Samples.HIGHEST}) {
                Checks.due("of no meaning", usedBy(TaxEngine.INPUT, none, 0), "");
            }
        });
        defineSecond(doc);
    }

    private static void defineSecond(Sentences doc) {
        doc.test("second: a line, 0 to 15, for SUM, REST, LESSER, GREATER and LIMIT", () -> {
            for (int kind : TWO_LINES) {
                Checks.lineRange(Samples::empty, (x, second) -> x.define(7, kind, 1, second));
            }
        });
        doc.test("0 to 1000 for SHARE", () -> {
            Checks.argumentRange(0, 1000, Samples::empty, (x, second) -> x.define(7, TaxEngine.SHARE, 1, second));
        });
        doc.test("of no meaning otherwise", () -> {
            for (int kind : new int[] {TaxEngine.INPUT, TaxEngine.TAX, TaxEngine.CARRY}) {
                for (int none : new int[] {-1, 16, 1001, Samples.LOWEST, Samples.HIGHEST}) {
                    Checks.taken("second " + none, Samples::everyKind, x -> x.define(12, kind, 0, none));
                }
            }
            Checks.taken("a circle, if it had a meaning", Samples::empty, x -> x.define(7, TaxEngine.TAX, 0, 7));
        });
    }

    private static void defineThrows(Sentences doc) {
        doc.test("Throws IndexOutOfBoundsException if there is no such line", () -> {
            for (int kind = TaxEngine.INPUT; kind <= TaxEngine.LIMIT; kind++) {
                int each = kind;
                Checks.noLine("line -1", Samples::everyKind, x -> x.define(-1, each, 0, 1));
                Checks.noLine("line 16", Samples::everyKind, x -> x.define(16, each, 0, 1));
            }
        });
        doc.test("or first or second is to be a line and is none", () -> {
            for (int kind : TWO_LINES) {
                Checks.noLine("first", Samples::everyKind, x -> x.define(12, kind, 16, 0));
                Checks.noLine("second", Samples::everyKind, x -> x.define(12, kind, 0, 16));
                Checks.noLine("both", Samples::everyKind, x -> x.define(12, kind, -1, -1));
            }
            for (int kind : ONE_LINE) {
                Checks.noLine("first", Samples::everyKind, x -> x.define(12, kind, -1, 0));
            }
        });
        doc.test("(a kind that is out of range asks for none)", () -> {
            Checks.badArgument("kind 9", Samples::everyKind, x -> x.define(12, 9, 16, 16));
            Checks.badArgument("kind -1", Samples::everyKind, x -> x.define(12, -1, -1, 99));
            Checks.noLine("but the line is asked for", Samples::everyKind, x -> x.define(16, 9, 0, 0));
        });
        doc.test("Throws IllegalArgumentException if kind is out of range", () -> {
            Checks.badArgument("kind 9", Samples::everyKind, x -> x.define(0, 9, 0, 0));
            Checks.badArgument("kind -1", Samples::everyKind, x -> x.define(15, -1, 0, 0));
        });
        doc.test("or second is, for SHARE", () -> {
            Checks.badArgument("second 1001", Samples::everyKind, x -> x.define(12, TaxEngine.SHARE, 0, 1001));
            Checks.badArgument("second -1", Samples::everyKind, x -> x.define(12, TaxEngine.SHARE, 15, -1));
        });
        doc.test("Throws IllegalStateException if the circles of the lines would not be allowed by that", () -> {
            Checks.badState("a circle comes about", Samples::everyKind, x -> x.define(0, TaxEngine.SHARE, 2, 1000));
            Checks.badState("a circle changes", Samples::everyKind, x -> x.define(10, TaxEngine.SUM, 1, 9));
            Checks.badState("a circle grows", Samples::full, x -> x.define(15, TaxEngine.SHARE, 14, 0));
            Checks.taken("a circle is cut", Samples::full, x -> x.define(7, TaxEngine.INPUT, 0, 0));
        });
    }

    private static void answer(Sentences doc) {
        doc.test("Gives the answer for a line.", () -> {
            TaxEngine x = new TaxEngine();
            x.answer(0, 1);
            x.answer(15, MILLION);
            Checks.due("line 0", x.value(0), 1);
            Checks.due("line 15", x.value(15), MILLION);
        });
        doc.test("It is kept, whatever the kind of the line, and counts while it is an INPUT.", () -> {
            for (int kind = TaxEngine.SUM; kind <= TaxEngine.LIMIT; kind++) {
                TaxEngine x = new TaxEngine();
                x.answer(0, 5);
                x.define(0, kind, 15, 14);
                Checks.due("does not count", x.value(0), 0);
                Checks.due("is kept", x.answer(0, MILLION), 5);
                Checks.due("does not count either", x.value(0), 0);
                x.define(0, TaxEngine.INPUT, 0, 0);
                Checks.due("counts", x.value(0), MILLION);
            }
        });
        doc.test("line: 0 to 15", () -> Checks.lineRange(Samples::everyKind, (x, line) -> x.answer(line, 1)));
        doc.test("value: 0 to 1000000", () -> Checks.argumentRange(0, MILLION, Samples::everyKind, (x, value) -> x.answer(1, value)));
        doc.test("Returns the answer before.", () -> {
            TaxEngine x = new TaxEngine();
            Checks.due("at first", x.answer(15, MILLION), 0);
            Checks.due("the greatest one", x.answer(15, 0), MILLION);
            Checks.due("the least one", x.answer(15, 1), 0);
            Checks.due("a refused one does not count", Checks.thrownBy(x, y -> y.answer(15, MILLION + 1)), "java.lang.IllegalArgumentException");
            Checks.due("the one before", x.answer(15, 1), 1);
        });
        doc.test("Throws IndexOutOfBoundsException if there is no such line", () -> {
            Checks.noLine("line -1", Samples::everyKind, x -> x.answer(-1, 0));
            Checks.noLine("line 16", Samples::everyKind, x -> x.answer(16, 0));
        });
        doc.test("Throws IllegalArgumentException if value is out of range", () -> {
            Checks.badArgument("value -1", Samples::everyKind, x -> x.answer(0, -1));
            Checks.badArgument("value 1000001", Samples::everyKind, x -> x.answer(15, MILLION + 1));
            Checks.badArgument("for a line that is no INPUT", Samples::everyKind, x -> x.answer(2, MILLION + 1));
        });
    }

    // ---- helpers

    /** Each line uses the next one; line 0 comes last, after it stood ahead of the chain as an input. */
    private static void chain(TaxEngine x) {
        for (int line = 14; line >= 0; line--) {
            x.define(line, TaxEngine.SHARE, line + 1, 1000);
        }
    }

    private static void chainBack(TaxEngine x) {
        for (int line = 15; line > 0; line--) {
            x.define(line, TaxEngine.SHARE, line - 1, 1000);
        }
    }

    /** The lines on which line 7 depends, if it is defined like this. */
    private static String usedBy(int kind, int first, int second) {
        TaxEngine x = new TaxEngine();
        x.define(7, kind, first, second);
        StringBuilder text = new StringBuilder();
        for (int line = 0; line < 16; line++) {
            if (x.dependsOn(7, line)) {
                text.append(text.length() == 0 ? "" : " ").append(line);
            }
        }
        return text.toString();
    }

    /** The value of a line of line 11, a billion, of line 10, the half of it, or of line 15, which is 0. */
    private static int ofGreatLines(int kind, int first, int second) {
        TaxEngine x = Checks.made(Samples::billion);
        x.bracket(0, 1000);
        x.define(14, kind, first, second);
        return x.value(14);
    }

    private static void checkPairs(int kind, int[][] cases) {
        for (int[] each : cases) {
            TaxEngine x = new TaxEngine();
            x.answer(15, each[0]);
            x.answer(0, each[1]);
            x.define(7, kind, 15, 0);
            Checks.due("kind " + kind + " of " + each[0] + " and " + each[1], x.value(7), each[2]);
        }
    }
}
