/** Promises 10 to 12. */
public final class BracketsTest {
    private static final int MILLION = 1000000;
    private static final int BILLION = 1000000000;

    public static void main(String[] args) {
        bracket();
        bracketRefuses();
        dropBrackets();
        taxOn();
        taxIsRoundedByBracket();
        taxOnRefuses();
        Checks.end();
    }

    private static void full(TaxEngine x) {
        x.bracket(1000, 100);
        x.bracket(0, 1000);
        x.bracket(2000, 333);
        x.bracket(MILLION, 1);
        x.bracket(4000, 999);
        x.answer(0, 5000);
        x.define(1, TaxEngine.TAX, 0, 0);
    }

    private static void bracket() {
        TaxEngine x = new TaxEngine();
        Checks.due("first", x.bracket(MILLION, 0), 1);
        Checks.due("changed", x.bracket(MILLION, 1000), 1);
        Checks.due("second", x.bracket(0, 7), 2);
        Checks.due("third", x.bracket(500, 7), 3);
        Checks.due("changed", x.bracket(500, 0), 3);
        Checks.due("changed", x.bracket(0, 1000), 3);
        Checks.due("fourth", x.bracket(501, 500), 4);
        Checks.due("fifth", x.bracket(499, 0), 5);
        Checks.due("changed when full", x.bracket(499, 1), 5);
        Checks.due("changed when full", x.bracket(MILLION, 999), 5);
        Checks.due("tax by rising threshold", x.taxOn(MILLION + 1000), 499 + 0 + 0 + (MILLION - 501) / 2 + 999);
    }

    private static void bracketRefuses() {
        Checks.badArgument("threshold -1", BracketsTest::full, x -> x.bracket(-1, 0));
        Checks.badArgument("threshold too great", BracketsTest::full, x -> x.bracket(MILLION + 1, 0));
        Checks.badArgument("rate -1", BracketsTest::full, x -> x.bracket(0, -1));
        Checks.badArgument("rate 1001", BracketsTest::full, x -> x.bracket(0, 1001));
        Checks.badArgument("rate before room", BracketsTest::full, x -> x.bracket(1, 1001));
        Checks.badState("a sixth one", BracketsTest::full, x -> x.bracket(1, 0));
        Checks.badState("a sixth one", BracketsTest::full, x -> x.bracket(999999, 1000));
    }

    private static void dropBrackets() {
        TaxEngine x = Checks.made(BracketsTest::full);
        Checks.due("tax before", x.value(1) > 0, true);
        Checks.due("five", x.dropBrackets(), 5);
        Checks.due("none", x.dropBrackets(), 0);
        Checks.due("no tax", x.taxOn(BILLION), 0);
        Checks.due("no tax", x.value(1), 0);
        Checks.due("one again", x.bracket(4500, 100), 1);
        Checks.due("its tax", x.value(1), 50);
    }

    private static void taxOn() {
        TaxEngine x = new TaxEngine();
        x.bracket(100, 1000);
        x.bracket(200, 0);
        x.bracket(300, 500);
        int[][] taxes = {{0, 0}, {99, 0}, {100, 0}, {101, 1}, {150, 50}, {200, 100}, {201, 100}, {300, 100}, {301, 100},
            {302, 101}, {1300, 600}, {BILLION, 100 + 499999850}};
        for (int[] each : taxes) {
            Checks.due("tax on " + each[0], x.taxOn(each[0]), each[1]);
        }
        TaxEngine y = new TaxEngine();
        y.bracket(0, 1000);
        Checks.due("all of it", y.taxOn(BILLION), BILLION);
        y.bracket(0, 0);
        Checks.due("nothing of it", y.taxOn(BILLION), 0);
    }

    private static void taxIsRoundedByBracket() {
        TaxEngine x = new TaxEngine();
        x.bracket(0, 500);
        x.bracket(1, 500);
        x.bracket(2, 999);
        Checks.due("halves are lost one by one", x.taxOn(2), 0);
        Checks.due("three parts", x.taxOn(3), 0);
        Checks.due("two of the last", x.taxOn(4), 1);
    }

    private static void taxOnRefuses() {
        Checks.badArgument("-1", BracketsTest::full, x -> x.taxOn(-1));
        Checks.badArgument("too great", BracketsTest::full, x -> x.taxOn(BILLION + 1));
        Checks.badArgument("lowest", BracketsTest::full, x -> x.taxOn(Integer.MIN_VALUE));
    }
}
