/** Promises 1 to 5 and 7 to 9, without circles: see CirclesTest for these. */
public final class LinesTest {
    private static final int MILLION = 1000000;
    private static final int BILLION = 1000000000;
    private static final int LOWEST = Integer.MIN_VALUE;
    private static final int HIGHEST = Integer.MAX_VALUE;

    public static void main(String[] args) {
        newObject();
        defineTakesOperandsByKind();
        defineRefuses();
        answers();
        answerRefuses();
        kinds();
        valuesOfTwoLines();
        valuesOfOneLine();
        valuesAtTheEdges();
        valueRefuses();
        dependence();
        influence();
        why();
        Checks.end();
    }

    private static void newObject() {
        TaxEngine x = new TaxEngine();
        for (int line = 0; line < 16; line++) {
            Checks.due("new: kindOf", x.kindOf(line), TaxEngine.INPUT);
            Checks.due("new: value", x.value(line), 0);
            Checks.due("new: why 0", x.why(line, 0), line);
            Checks.due("new: why 1", x.why(line, 1), TaxEngine.NONE);
            Checks.due("new: influence", x.influence(line), 1);
            Checks.due("new: dependsOn", x.dependsOn(line, line), false);
            Checks.due("new: afterCredits", x.afterCredits(line), 0);
            Checks.due("new: bestSum", x.bestSum(line), 0);
        }
        Checks.due("new: taxOn", x.taxOn(BILLION), 0);
        Checks.due("new: carried", x.carried(), 0);
        Checks.due("new: year", x.year(), 0);
        Checks.due("new: dropBrackets", x.dropBrackets(), 0);
        Checks.due("new: closeYear", x.closeYear(), 0);
    }

    private static void defineTakesOperandsByKind() {
        int[] oneLine = {TaxEngine.TAX, TaxEngine.CARRY};
        for (int kind : oneLine) {
            TaxEngine x = new TaxEngine();
            x.define(0, kind, 15, HIGHEST);
            x.define(15, kind, 1, LOWEST);
            Checks.due("second has no meaning", x.dependsOn(0, 1), true);
            Checks.noLine("first is a line", Samples::everyKind, y -> y.define(0, kind, 16, 0));
            Checks.noLine("first is a line", Samples::everyKind, y -> y.define(15, kind, -1, 0));
        }
        int[] twoLines = {TaxEngine.SUM, TaxEngine.REST, TaxEngine.LESSER, TaxEngine.GREATER, TaxEngine.LIMIT};
        for (int kind : twoLines) {
            TaxEngine x = new TaxEngine();
            x.define(0, kind, 15, 14);
            Checks.due("uses first", x.dependsOn(0, 15), true);
            Checks.due("uses second", x.dependsOn(0, 14), true);
            Checks.noLine("first is a line", Samples::everyKind, y -> y.define(0, kind, 16, 0));
            Checks.noLine("first is a line", Samples::everyKind, y -> y.define(0, kind, LOWEST, 1));
            Checks.noLine("second is a line", Samples::everyKind, y -> y.define(0, kind, 1, 16));
            Checks.noLine("second is a line", Samples::everyKind, y -> y.define(0, kind, 1, -1));
        }
        TaxEngine x = new TaxEngine();
        x.define(3, TaxEngine.INPUT, LOWEST, HIGHEST);
        x.define(4, TaxEngine.SHARE, 5, 3);
        Checks.due("a share is no line", x.dependsOn(4, 3), false);
        Checks.noLine("first of SHARE", Samples::everyKind, y -> y.define(0, TaxEngine.SHARE, 16, 0));
    }

    private static void defineRefuses() {
        Checks.noLine("line 16", Samples::everyKind, x -> x.define(16, 0, 0, 0));
        Checks.noLine("line -1", Samples::everyKind, x -> x.define(-1, 0, 0, 0));
        Checks.noLine("line before kind", Samples::everyKind, x -> x.define(16, 9, 0, 0));
        Checks.noLine("first before share", Samples::everyKind, x -> x.define(0, TaxEngine.SHARE, -1, 1001));
        Checks.noLine("second before circle", Samples::everyKind, x -> x.define(0, TaxEngine.SUM, 0, 16));
        Checks.badArgument("kind 9", Samples::everyKind, x -> x.define(0, 9, 0, 0));
        Checks.badArgument("kind -1", Samples::everyKind, x -> x.define(0, -1, 99, -99));
        Checks.badArgument("kind lowest", Samples::everyKind, x -> x.define(15, LOWEST, 16, 16));
        Checks.badArgument("share 1001", Samples::everyKind, x -> x.define(0, TaxEngine.SHARE, 1, 1001));
        Checks.badArgument("share -1", Samples::everyKind, x -> x.define(0, TaxEngine.SHARE, 1, -1));
        Checks.badArgument("share before circle", Samples::everyKind, x -> x.define(0, TaxEngine.SHARE, 0, 1001));
        Checks.badState("circle", Samples::everyKind, x -> x.define(0, TaxEngine.SHARE, 0, 1000));
        Checks.badState("circle", Samples::everyKind, x -> x.define(1, TaxEngine.SUM, 7, 0));
    }

    private static void answers() {
        TaxEngine x = new TaxEngine();
        Checks.due("answer before", x.answer(0, MILLION), 0);
        Checks.due("answer before", x.answer(15, 5), 0);
        Checks.due("value 0", x.value(0), MILLION);
        Checks.due("answer again", x.answer(0, 3), MILLION);
        x.define(15, TaxEngine.SUM, 0, 0);
        Checks.due("kept by another kind", x.answer(15, 9), 5);
        Checks.due("does not count", x.value(15), 6);
        x.define(15, TaxEngine.INPUT, 0, 0);
        Checks.due("counts again", x.value(15), 9);
        Checks.due("answer 0", x.answer(15, 0), 9);
        Checks.due("value is 0", x.value(15), 0);
        x.define(15, TaxEngine.INPUT, 1, 1);
        x.closeYear();
        Checks.due("answers stay", x.value(0), 3);
    }

    private static void answerRefuses() {
        Checks.noLine("answer 16", Samples::everyKind, x -> x.answer(16, 0));
        Checks.noLine("answer -1", Samples::everyKind, x -> x.answer(-1, MILLION + 1));
        Checks.badArgument("answer too great", Samples::everyKind, x -> x.answer(0, MILLION + 1));
        Checks.badArgument("answer negative", Samples::everyKind, x -> x.answer(15, -1));
        Checks.badArgument("answer lowest", Samples::everyKind, x -> x.answer(15, LOWEST));
    }

    private static void kinds() {
        TaxEngine x = Checks.made(Samples::everyKind);
        int[] kinds = {0, 0, 2, 6, 3, 4, 5, 1, 7, 8, 2, 0, 0, 0, 0, 0};
        for (int line = 0; line < 16; line++) {
            Checks.due("kindOf " + line, x.kindOf(line), kinds[line]);
        }
        x.define(7, TaxEngine.INPUT, 0, 0);
        Checks.due("kindOf 7", x.kindOf(7), TaxEngine.INPUT);
        Checks.noLine("kindOf 16", Samples::everyKind, y -> y.kindOf(16));
        Checks.noLine("kindOf -1", Samples::everyKind, y -> y.kindOf(-1));
    }

    private static void valuesOfTwoLines() {
        int[][] cases = {
            // kind, first, second, value
            {TaxEngine.SUM, 3, 4, 7}, {TaxEngine.SUM, 0, 0, 0}, {TaxEngine.SUM, MILLION, MILLION, 2 * MILLION},
            {TaxEngine.REST, 9, 4, 5}, {TaxEngine.REST, 4, 9, 0}, {TaxEngine.REST, 4, 4, 0}, {TaxEngine.REST, 5, 4, 1},
            {TaxEngine.LESSER, 3, 4, 3}, {TaxEngine.LESSER, 4, 3, 3}, {TaxEngine.LESSER, 4, 4, 4},
            {TaxEngine.GREATER, 3, 4, 4}, {TaxEngine.GREATER, 4, 3, 4}, {TaxEngine.GREATER, 4, 4, 4},
            {TaxEngine.LIMIT, 3, 4, 3}, {TaxEngine.LIMIT, 4, 3, 3}, {TaxEngine.LIMIT, 4, 4, 4}, {TaxEngine.LIMIT, 0, 9, 0},
        };
        for (int[] each : cases) {
            TaxEngine x = new TaxEngine();
            x.answer(15, each[1]);
            x.answer(3, each[2]);
            x.define(0, each[0], 15, 3);
            Checks.due("kind " + each[0] + " of " + each[1] + " and " + each[2], x.value(0), each[3]);
        }
    }

    private static void valuesOfOneLine() {
        int[][] shares = {
            {1000, 250, 250}, {999, 250, 249}, {3, 333, 0}, {4, 250, 1}, {7, 0, 0}, {7, 1000, 7}, {MILLION, 999, 999000},
        };
        for (int[] each : shares) {
            TaxEngine x = new TaxEngine();
            x.answer(0, each[0]);
            x.define(15, TaxEngine.SHARE, 0, each[1]);
            Checks.due("share " + each[1] + " of " + each[0], x.value(15), each[2]);
        }
        TaxEngine x = new TaxEngine();
        x.answer(0, 700);
        x.define(1, TaxEngine.TAX, 0, 0);
        x.define(2, TaxEngine.CARRY, 0, 0);
        Checks.due("no brackets", x.value(1), 0);
        Checks.due("nothing carried", x.value(2), 0);
        x.bracket(100, 500);
        x.carry(699, 0);
        Checks.due("tax", x.value(1), 300);
        Checks.due("all that is carried", x.value(2), 699);
        x.carry(1, 20);
        Checks.due("just as much", x.value(2), 700);
        x.carry(1, 20);
        Checks.due("less than is carried", x.value(2), 700);
        x.define(2, TaxEngine.INPUT, 0, 0);
        x.closeYear();
        x.define(2, TaxEngine.CARRY, 0, 0);
        Checks.due("699 have expired", x.value(2), 2);
    }

    private static void valuesAtTheEdges() {
        TaxEngine x = new TaxEngine();
        x.answer(0, MILLION);
        for (int line = 1; line < 12; line++) {
            x.define(line, TaxEngine.SUM, line - 1, line - 1);
        }
        Checks.due("512 millions", x.value(9), 512 * MILLION);
        Checks.due("not above a billion", x.value(10), BILLION);
        Checks.due("nor twice that", x.value(11), BILLION);
        x.define(12, TaxEngine.SHARE, 11, 999);
        Checks.due("share of a billion", x.value(12), 999 * MILLION);
        x.define(12, TaxEngine.SHARE, 11, 1000);
        Checks.due("all of a billion", x.value(12), BILLION);
        x.define(13, TaxEngine.REST, 11, 0);
        Checks.due("rest of a billion", x.value(13), BILLION - MILLION);
        x.bracket(0, 1000);
        x.define(14, TaxEngine.TAX, 11, 0);
        Checks.due("tax on a billion", x.value(14), BILLION);
        x.answer(0, 999999);
        x.define(15, TaxEngine.SUM, 0, 9);
        Checks.due("just below", x.value(15), 513 * 999999);
    }

    private static void valueRefuses() {
        Checks.noLine("value 16", Samples::everyKind, x -> x.value(16));
        Checks.noLine("value -1", Samples::everyKind, x -> x.value(-1));
        Checks.noLine("value highest", Samples::everyKind, x -> x.value(HIGHEST));
    }

    private static void dependence() {
        TaxEngine x = new TaxEngine();
        for (int line = 0; line < 15; line++) {
            x.define(line, TaxEngine.SHARE, line + 1, 0);
        }
        for (int line = 0; line < 16; line++) {
            for (int other = 0; other < 16; other++) {
                Checks.due(line + " dependsOn " + other, x.dependsOn(line, other), line < other);
            }
        }
        x.define(8, TaxEngine.INPUT, 0, 0);
        Checks.due("cut", x.dependsOn(7, 9), false);
        Checks.due("still", x.dependsOn(0, 8), true);
        x.define(8, TaxEngine.LESSER, 15, 14);
        Checks.due("second", x.dependsOn(0, 14), true);
        Checks.due("not between", x.dependsOn(0, 9), false);
        Checks.noLine("dependsOn 16", Samples::everyKind, y -> y.dependsOn(16, 0));
        Checks.noLine("dependsOn other 16", Samples::everyKind, y -> y.dependsOn(0, 16));
        Checks.noLine("dependsOn -1", Samples::everyKind, y -> y.dependsOn(-1, 0));
        Checks.noLine("dependsOn other -1", Samples::everyKind, y -> y.dependsOn(0, -1));
    }

    private static void influence() {
        TaxEngine x = Checks.made(Samples::everyKind);
        Checks.due("of 0", x.influence(0), 2);
        Checks.due("of 1", x.influence(1), 6);
        Checks.due("of no input", x.influence(2), 0);
        Checks.due("of a limit", x.influence(9), 0);
        Checks.due("of a lone line", x.influence(15), 1);
        Checks.due("changes nothing", x.answer(0, 1003), 1000);
        Checks.due("a share steps up", x.influence(0), 5);
        TaxEngine y = new TaxEngine();
        y.answer(0, MILLION);
        y.define(1, TaxEngine.REST, 0, 2);
        y.define(3, TaxEngine.LESSER, 0, 4);
        y.define(5, TaxEngine.GREATER, 0, 4);
        Checks.due("above the greatest answer", y.influence(0), 3);
        y.answer(4, MILLION);
        Checks.due("the lesser one stays", y.influence(0), 3);
        y.define(6, TaxEngine.SUM, 0, 0);
        for (int line = 7; line < 16; line++) {
            y.define(line, TaxEngine.SUM, line - 1, line - 1);
        }
        Checks.due("what is capped stays", y.influence(0), 12);
        Checks.noLine("influence 16", Samples::everyKind, z -> z.influence(16));
        Checks.noLine("influence -1", Samples::everyKind, z -> z.influence(-1));
    }

    static void row(TaxEngine x, int line, int... due) {
        for (int place = 0; place < due.length; place++) {
            Checks.due("why " + line + " at " + place, x.why(line, place), due[place]);
        }
        Checks.due("why " + line + " ends", x.why(line, due.length), TaxEngine.NONE);
        Checks.due("why " + line + " far", x.why(line, HIGHEST), TaxEngine.NONE);
    }

    private static void why() {
        TaxEngine x = Checks.made(Samples::everyKind);
        row(x, 0, 0);
        row(x, 2, 2, 0, 1);
        row(x, 3, 3, 2, 0, 1);
        row(x, 4, 4, 0);
        row(x, 5, 5, 3, 2, 0, 1);
        row(x, 6, 6, 4, 0);
        row(x, 7, 7, 5, 6, 3, 4, 2, 0, 1);
        row(x, 8, 8, 7, 5, 6, 3, 4, 2, 0, 1);
        TaxEngine y = new TaxEngine();
        y.define(0, TaxEngine.SUM, 15, 15);
        row(y, 0, 0, 15);
        int[] choosing = {TaxEngine.LESSER, TaxEngine.GREATER, TaxEngine.LIMIT};
        for (int kind : choosing) {
            y.define(1, kind, 3, 2);
            row(y, 1, 1, 3);
        }
        y.answer(3, 1);
        row(y, 1, 1, 2);
        y.define(1, TaxEngine.GREATER, 3, 2);
        row(y, 1, 1, 3);
        for (int line = 0; line < 15; line++) {
            y.define(line, TaxEngine.SUM, line + 1, 15);
        }
        row(y, 0, 0, 1, 15, 2, 3, 4, 5, 6, 7, 8, 9, 10, 11, 12, 13, 14);
        Checks.noLine("why 16", Samples::everyKind, z -> z.why(16, 0));
        Checks.noLine("why -1", Samples::everyKind, z -> z.why(-1, 0));
        Checks.noLine("why at -1", Samples::everyKind, z -> z.why(0, -1));
        Checks.noLine("why at lowest", Samples::everyKind, z -> z.why(15, LOWEST));
    }
}
