/** Edges of the questions about lines, promises 4 to 9. */
final class QuestionEdges {
    private static final int MILLION = Samples.MILLION;
    private static final int BILLION = Samples.BILLION;

    private QuestionEdges() {
    }

    static void tests(Sentences doc) {
        doc.under("Promise 4: kindOf");
        kindOf(doc);
        doc.under("Promise 5: value");
        value(doc);
        doc.under("Promise 6: boundFor");
        boundFor(doc);
        boundForThrows(doc);
        doc.under("Promise 7: dependsOn");
        dependsOn(doc);
        doc.under("Promise 8: influence");
        influence(doc);
        doc.under("Promise 9: why");
        why(doc);
        whyPlaces(doc);
    }

    private static void kindOf(Sentences doc) {
        doc.test("Returns the kind of a line.", () -> {
            TaxEngine x = Checks.made(Samples::everyKind);
            int[] kinds = {0, 0, 2, 6, 3, 4, 5, 1, 7, 8, 2, 0, 0, 0, 0, 0};
            for (int line = 0; line < 16; line++) {
                Checks.due("kindOf " + line, x.kindOf(line), kinds[line]);
            }
        });
        doc.test("line: 0 to 15", () -> Checks.lineRange(Samples::everyKind, (x, line) -> x.kindOf(line)));
        doc.test("Returns INPUT to LIMIT.", () -> {
            TaxEngine x = new TaxEngine();
            Checks.due("the first kind", x.kindOf(15), TaxEngine.INPUT);
            x.define(15, TaxEngine.LIMIT, 0, 0);
            Checks.due("the last kind", x.kindOf(15), TaxEngine.LIMIT);
            Checks.due("a refused kind does not count", Checks.thrownBy(x, y -> y.define(15, 9, 0, 0)), "java.lang.IllegalArgumentException");
            Checks.due("still", x.kindOf(15), TaxEngine.LIMIT);
        });
        doc.test("Throws IndexOutOfBoundsException if there is no such line", () -> {
            Checks.noLine("line -1", Samples::everyKind, x -> x.kindOf(-1));
            Checks.noLine("line 16", Samples::everyKind, x -> x.kindOf(16));
        });
    }

    private static void value(Sentences doc) {
        doc.test("Returns the value of a line.", () -> {
            TaxEngine x = Checks.made(Samples::everyKind);
            int[] values = {1000, 300, 700, 90, 250, 90, 250, 340, 190, 150, 150, 0, 0, 0, 0, 77};
            for (int line = 0; line < 16; line++) {
                Checks.due("value " + line, x.value(line), values[line]);
            }
        });
        doc.test("line: 0 to 15", () -> Checks.lineRange(Samples::everyKind, (x, line) -> x.value(line)));
        doc.test("Returns the value.", () -> {
            TaxEngine x = Checks.made(Samples::billion);
            Checks.due("the greatest value", x.value(11), BILLION);
            Checks.due("the least value", x.value(15), 0);
            x.answer(0, 0);
            x.answer(1, 0);
            Checks.due("asked again", x.value(11), 0);
        });
        doc.test("Throws IndexOutOfBoundsException if there is no such line", () -> {
            Checks.noLine("line -1", Samples::everyKind, x -> x.value(-1));
            Checks.noLine("line 16", Samples::everyKind, x -> x.value(16));
        });
    }

    private static void boundFor(Sentences doc) {
        doc.test("Returns the value that the line second of a LIMIT has when the LIMIT has some value.", () -> {
            TaxEngine x = Checks.made(Samples::half);
            int[][] bounds = {{0, 500}, {1, 499}, {332, 334}, {333, 333}, {334, 333}, {998, 1}, {999, 0}, {1000, 0}, {BILLION, 0}};
            for (int[] each : bounds) {
                Checks.due("for " + each[0], x.boundFor(2, each[0]), each[1]);
            }
            x.answer(1, 0);
            Checks.due("for more than the value of first", x.boundFor(2, 1), 499);
        });
        doc.test("line: 0 to 15", () -> {
            Checks.lineRange(QuestionEdges::limitsAtBothEnds, (x, line) -> x.boundFor(line, 0));
            TaxEngine x = Checks.made(QuestionEdges::limitsAtBothEnds);
            Checks.due("line 0", x.boundFor(0, 0), 7);
            Checks.due("line 15", x.boundFor(15, 0), 9);
        });
        doc.test("value: 0 to 1000000000", () -> {
            Checks.argumentRange(0, BILLION, Samples::half, (x, value) -> x.boundFor(2, value));
        });
        doc.test("Returns the value of the line second.", () -> {
            TaxEngine x = Checks.made(Samples::billion);
            x.define(12, TaxEngine.REST, 11, 13);
            x.define(13, TaxEngine.LIMIT, 11, 12);
            Checks.due("the greatest one", x.boundFor(13, 0), BILLION);
            Checks.due("the least one", x.boundFor(13, BILLION), 0);
            Checks.due("one more", x.boundFor(13, BILLION - 1), 1);
            x.define(12, TaxEngine.INPUT, 0, 0);
            x.answer(12, 5);
            Checks.due("outside of circles, for 0", x.boundFor(13, 0), 5);
            Checks.due("outside of circles, for a billion", x.boundFor(13, BILLION), 5);
            Checks.due("as many lines in one circle as there can be", Checks.made(Samples::full).boundFor(0, 400), 600);
        });
    }

    private static void boundForThrows(Sentences doc) {
        doc.test("Throws IndexOutOfBoundsException if there is no such line", () -> {
            Checks.noLine("line -1", Samples::everyKind, x -> x.boundFor(-1, 0));
            Checks.noLine("line 16", Samples::everyKind, x -> x.boundFor(16, 0));
        });
        doc.test("Throws IllegalArgumentException if value is out of range", () -> {
            Checks.badArgument("value -1", Samples::everyKind, x -> x.boundFor(9, -1));
            Checks.badArgument("value 1000000001", Samples::everyKind, x -> x.boundFor(9, BILLION + 1));
        });
        doc.test("Throws IllegalStateException if the line is no LIMIT", () -> {
            for (int line = 0; line < 16; line++) {
                int each = line;
                if (line != 9) {
                    Checks.badState("line " + line, Samples::everyKind, x -> x.boundFor(each, 0));
                }
            }
            Checks.badState("a line that was one", x -> {
                Samples.half(x);
                x.define(2, TaxEngine.LESSER, 0, 1);
            }, x -> x.boundFor(2, 0));
        });
    }

    private static void limitsAtBothEnds(TaxEngine x) {
        x.answer(7, 7);
        x.answer(9, 9);
        x.define(0, TaxEngine.LIMIT, 8, 7);
        x.define(15, TaxEngine.LIMIT, 8, 9);
    }

    private static void dependsOn(Sentences doc) {
        doc.test("Returns whether a line depends on another one.", () -> {
            TaxEngine x = Checks.made(Samples::everyKind);
            Checks.due("uses it", x.dependsOn(8, 7), true);
            Checks.due("uses what uses it", x.dependsOn(8, 1), true);
            Checks.due("is used by it", x.dependsOn(7, 8), false);
            Checks.due("has nothing to do with it", x.dependsOn(8, 15), false);
        });
        doc.test("line: 0 to 15", () -> Checks.lineRange(Samples::everyKind, (x, line) -> x.dependsOn(line, 0)));
        doc.test("other: 0 to 15, perhaps the same", () -> {
            Checks.lineRange(Samples::everyKind, (x, other) -> x.dependsOn(0, other));
            TaxEngine x = Checks.made(Samples::full);
            Checks.due("the same one, of a circle", x.dependsOn(0, 0), true);
            Checks.due("the same one, of none", x.dependsOn(15, 15), false);
        });
        doc.test("Returns true if it does.", () -> {
            TaxEngine x = new TaxEngine();
            x.define(0, TaxEngine.SHARE, 15, 0);
            Checks.due("0 on 15, though its value does not change", x.dependsOn(0, 15), true);
            Checks.due("15 on 0", x.dependsOn(15, 0), false);
            x.define(0, TaxEngine.INPUT, 15, 15);
            Checks.due("no more", x.dependsOn(0, 15), false);
        });
        doc.test("Throws IndexOutOfBoundsException if there is no such line", () -> {
            Checks.noLine("line -1", Samples::everyKind, x -> x.dependsOn(-1, 0));
            Checks.noLine("line 16", Samples::everyKind, x -> x.dependsOn(16, 15));
            Checks.noLine("other -1", Samples::everyKind, x -> x.dependsOn(0, -1));
            Checks.noLine("other 16", Samples::everyKind, x -> x.dependsOn(15, 16));
            Checks.noLine("both", Samples::everyKind, x -> x.dependsOn(16, 16));
        });
    }

    private static void influence(Sentences doc) {
        doc.test("Returns how many lines have another value if the answer for a line is greater by 1.", () -> {
            TaxEngine x = new TaxEngine();
            x.answer(15, MILLION);
            x.define(0, TaxEngine.REST, 15, 14);
            Checks.due("the greatest answer, by 1", x.influence(15), 2);
            Checks.due("0, by 1", x.influence(14), 2);
            x.define(1, TaxEngine.LESSER, 15, 13);
            Checks.due("a line that depends on it and stays", x.influence(15), 2);
            x.define(2, TaxEngine.SHARE, 15, 999);
            Checks.due("a share that stays", x.influence(15), 2);
            x.answer(15, MILLION - 1);
            Checks.due("a share that steps", x.influence(15), 3);
            x.define(3, TaxEngine.SHARE, 15, 1000);
            Checks.due("a whole share", x.influence(15), 4);
            Checks.due("the answer is as it was", x.answer(15, 0), MILLION - 1);
        });
        doc.test("line: 0 to 15", () -> Checks.lineRange(Samples::everyKind, (x, line) -> x.influence(line)));
        doc.test("Returns how many, the line itself among them; 0 if the line is no INPUT.", QuestionEdges::influenceCounts);
        doc.test("Throws IndexOutOfBoundsException if there is no such line", () -> {
            Checks.noLine("line -1", Samples::everyKind, x -> x.influence(-1));
            Checks.noLine("line 16", Samples::everyKind, x -> x.influence(16));
        });
    }

    private static void influenceCounts() {
        TaxEngine x = new TaxEngine();
        Checks.due("the line itself alone", x.influence(15), 1);
        for (int kind = TaxEngine.SUM; kind <= TaxEngine.LIMIT; kind++) {
            x.define(0, kind, 15, 15);
            Checks.due("no INPUT", x.influence(0), 0);
        }
        for (int line = 0; line < 15; line++) {
            x.define(line, TaxEngine.SHARE, 15, 1000);
        }
        Checks.due("all lines", x.influence(15), 16);
        TaxEngine y = Checks.made(Samples::billion);
        Checks.due("just a billion stays", y.influence(1), 10);
        y.answer(1, 953124);
        Checks.due("what is less than a billion does not", y.influence(1), 11);
        TaxEngine z = Checks.made(Samples::full);
        Checks.due("all but the limit", z.influence(15), 15);
        z.answer(15, 1001);
        Checks.due("the limit alone, and the line itself", z.influence(15), 2);
    }

    private static void why(Sentences doc) {
        doc.test("Returns a line of the explanation of a line.", () -> {
            LinesTest.row(Checks.made(Samples::everyKind), 8, 8, 7, 5, 6, 3, 4, 2, 0, 1);
        });
        doc.test("That is a row without repetitions: it begins with the line", () -> {
            TaxEngine x = Checks.made(Samples::everyKind);
            for (int line = 0; line < 16; line++) {
                Checks.due("it begins", x.why(line, 0), line);
            }
            x.define(11, TaxEngine.SUM, 15, 15);
            LinesTest.row(x, 11, 11, 15);
            x.define(12, TaxEngine.SUM, 11, 15);
            LinesTest.row(x, 12, 12, 11, 15);
            LinesTest.row(Checks.made(Samples::fifteen), 0, 0, 15);
            LinesTest.row(Checks.made(Samples::fifteen), 14, 14, 15, 0);
        });
        doc.test("then, for each line of the row in order, the lines follow that tell its value and are not in the row yet", () -> {
            TaxEngine x = new TaxEngine();
            for (int line = 0; line < 7; line++) {
                x.define(line, TaxEngine.SUM, 2 * line + 1, 2 * line + 2);
            }
            x.define(14, TaxEngine.SUM, 15, 13);
            LinesTest.row(x, 0, 0, 1, 2, 3, 4, 5, 6, 7, 8, 9, 10, 11, 12, 13, 14, 15);
            Checks.due("the last place of the longest row", x.why(0, 15), 15);
            Checks.due("the place behind it", x.why(0, 16), TaxEngine.NONE);
        });
        doc.test("for SUM and REST both operands", () -> {
            LinesTest.row(Checks.made(x -> x.define(0, TaxEngine.SUM, 15, 14)), 0, 0, 15, 14);
            LinesTest.row(Checks.made(x -> x.define(0, TaxEngine.REST, 14, 15)), 0, 0, 14, 15);
        });
        doc.test("for SHARE, TAX and CARRY the line first", () -> {
            for (int kind : new int[] {TaxEngine.SHARE, TaxEngine.TAX, TaxEngine.CARRY}) {
                LinesTest.row(Checks.made(x -> x.define(0, kind, 15, 3)), 0, 0, 15);
            }
        });
        doc.test("for LESSER, GREATER and LIMIT the line first if its value is the value of the line, otherwise the line second", () -> {
            checkTold(TaxEngine.LESSER, 6, 7, 0);
            checkTold(TaxEngine.LESSER, 7, 7, 0);
            checkTold(TaxEngine.LESSER, 7, 6, 15);
            checkTold(TaxEngine.GREATER, 6, 7, 15);
            checkTold(TaxEngine.GREATER, 7, 7, 0);
            checkTold(TaxEngine.GREATER, 7, 6, 0);
            checkTold(TaxEngine.LIMIT, 6, 7, 0);
            checkTold(TaxEngine.LIMIT, 7, 7, 0);
            checkTold(TaxEngine.LIMIT, 7, 6, 15);
            TaxEngine x = Checks.made(Samples::fifteen);
            x.answer(15, 1);
            Checks.due("its first is 1, its second is 1, it is 0", x.value(0), 0);
            Checks.due("otherwise the line second", x.why(0, 1), 1);
        });
        doc.test("for INPUT none", () -> {
            LinesTest.row(Checks.made(x -> x.answer(15, 1)), 15, 15);
            LinesTest.row(Checks.made(x -> x.define(15, TaxEngine.INPUT, 0, 1)), 15, 15);
        });
    }

    /** Line 7 is told by line 0 or by line 15. */
    private static void checkTold(int kind, int first, int second, int due) {
        TaxEngine x = new TaxEngine();
        x.answer(0, first);
        x.answer(15, second);
        x.define(7, kind, 0, 15);
        LinesTest.row(x, 7, 7, due);
    }

    private static void whyPlaces(Sentences doc) {
        doc.test("line: 0 to 15", () -> Checks.lineRange(Samples::everyKind, (x, line) -> x.why(line, 0)));
        doc.test("place: 0 for the line itself", () -> {
            TaxEngine x = Checks.made(Samples::full);
            Checks.due("line 0", x.why(0, 0), 0);
            Checks.due("line 15", x.why(15, 0), 15);
        });
        doc.test("Returns the line at the place; NONE if the row is not so long.", () -> {
            TaxEngine x = Checks.made(Samples::everyKind);
            Checks.due("the last place", x.why(2, 2), 1);
            Checks.due("the place behind", x.why(2, 3), TaxEngine.NONE);
            Checks.due("after a longer row", x.why(8, 3) + x.why(15, 1), 6 + TaxEngine.NONE);
            Checks.due("16 places", x.why(8, 16), TaxEngine.NONE);
            Checks.due("the furthest place", x.why(8, Samples.HIGHEST), TaxEngine.NONE);
            TaxEngine y = Checks.made(Samples::fifteen);
            LinesTest.row(y, 1, 1, 2, 3, 4, 5, 6, 7, 8, 9, 10, 11, 12, 13, 14, 15, 0);
        });
        doc.test("Throws IndexOutOfBoundsException if there is no such line", () -> {
            Checks.noLine("line -1", Samples::everyKind, x -> x.why(-1, 0));
            Checks.noLine("line 16", Samples::everyKind, x -> x.why(16, 0));
        });
        doc.test("or place is below 0", () -> {
            Checks.noLine("place -1", Samples::everyKind, x -> x.why(0, -1));
            Checks.noLine("place -1 of line 15", Samples::everyKind, x -> x.why(15, -1));
            Checks.noLine("the lowest place", Samples::everyKind, x -> x.why(8, Samples.LOWEST));
            Checks.noLine("neither line nor place", Samples::everyKind, x -> x.why(16, -1));
        });
    }
}
