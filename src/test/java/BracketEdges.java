/** Edges of brackets, and promises 10 to 12. */
final class BracketEdges {
    private static final int MILLION = Samples.MILLION;
    private static final int BILLION = Samples.BILLION;

    private BracketEdges() {
    }

    static void tests(Sentences doc) {
        doc.under("Brackets");
        terms(doc);
        doc.under("Promise 10: bracket");
        bracket(doc);
        bracketThrows(doc);
        doc.under("Promise 11: dropBrackets");
        dropBrackets(doc);
        doc.under("Promise 12: taxOn");
        taxOn(doc);
    }

    private static void terms(Sentences doc) {
        doc.test("There are up to 5 brackets", () -> {
            TaxEngine x = new TaxEngine();
            for (int each = 0; each < 5; each++) {
                Checks.due("brackets", x.bracket(10 * each, 1000), each + 1);
            }
            Checks.due("a sixth one", Checks.thrownBy(x, y -> y.bracket(50, 1000)), "java.lang.IllegalStateException");
            Checks.due("all of it", x.taxOn(50), 50);
        });
        doc.test("each with a threshold, from which on it holds up to the next greater threshold", () -> {
            TaxEngine x = new TaxEngine();
            x.bracket(300, 1000);
            x.bracket(100, 500);
            x.bracket(200, 0);
            checkTaxes(x, new int[][] {{100, 0}, {102, 1}, {199, 49}, {200, 50}, {201, 50}, {300, 50}, {301, 51}});
            x.bracket(0, 1000);
            x.bracket(299, 1000);
            checkTaxes(x, new int[][] {{0, 0}, {1, 1}, {100, 100}, {102, 101}, {200, 150}, {299, 150}, {300, 151}, {301, 152}});
        });
        doc.test("and a rate in thousandths", () -> {
            checkRate(0, 1000, 0);
            checkRate(1, 999, 0);
            checkRate(1, 1000, 1);
            checkRate(999, 1, 0);
            checkRate(999, 1000, 999);
            checkRate(1000, 1, 1);
            checkRate(1000, BILLION, BILLION);
        });
        doc.test("The tax on a value is the sum, over all brackets, of the part of the value above its threshold and not above the next one", () -> {
            TaxEngine x = new TaxEngine();
            for (int each = 1; each <= 5; each++) {
                x.bracket(1000 * each, 100 * each);
            }
            checkTaxes(x, new int[][] {{0, 0}, {999, 0}, {1000, 0}, {1009, 0}, {1010, 1}, {1990, 99}, {2000, 100}, {2004, 100}, {2005, 101},
                {3000, 300}, {4000, 600}, {5000, 1000}, {5001, 1000}, {5002, 1001}, {MILLION, 1000 + 497500}, {BILLION, 1000 + 499997500}});
        });
        doc.test("multiplied by the rate, divided by 1000 and rounded down", () -> {
            TaxEngine x = new TaxEngine();
            x.bracket(0, 500);
            x.bracket(1, 500);
            x.bracket(2, 999);
            checkTaxes(x, new int[][] {{1, 0}, {2, 0}, {3, 0}, {4, 1}, {1002, 999}, {1003, 999}});
        });
        doc.test("Below the first threshold, and without brackets, there is no tax.", () -> {
            TaxEngine x = new TaxEngine();
            checkTaxes(x, new int[][] {{0, 0}, {1, 0}, {BILLION, 0}});
            x.bracket(MILLION, 1000);
            checkTaxes(x, new int[][] {{0, 0}, {MILLION - 1, 0}, {MILLION, 0}, {MILLION + 1, 1}});
            x.dropBrackets();
            checkTaxes(x, new int[][] {{MILLION + 1, 0}, {BILLION, 0}});
        });
    }

    private static void checkRate(int rate, int value, int due) {
        TaxEngine x = Checks.made(y -> y.bracket(0, rate));
        Checks.due("rate " + rate + " on " + value, x.taxOn(value), due);
    }

    private static void checkTaxes(TaxEngine x, int[][] taxes) {
        for (int[] each : taxes) {
            Checks.due("tax on " + each[0], x.taxOn(each[0]), each[1]);
        }
    }

    private static void bracket(Sentences doc) {
        doc.test("Adds a bracket, or changes the rate of the one with a threshold.", () -> {
            TaxEngine x = new TaxEngine();
            x.bracket(5, 1000);
            Checks.due("added", x.taxOn(1005), 1000);
            x.bracket(5, 1);
            Checks.due("changed", x.taxOn(1005), 1);
            x.bracket(4, 1000);
            Checks.due("added just below", x.taxOn(1005), 2);
            x.bracket(6, 0);
            Checks.due("added just above", x.taxOn(1005), 1);
            TaxEngine full = Checks.made(Samples::full);
            for (int each = 4; each >= 0; each--) {
                full.bracket(100 * each, 1000);
            }
            Checks.due("all five changed when there are five", full.taxOn(MILLION), MILLION);
        });
        doc.test("threshold: 0 to 1000000", () -> {
            Checks.argumentRange(0, MILLION, Samples::everyKind, (x, threshold) -> x.bracket(threshold, 1));
            Checks.due("at 0", Checks.made(x -> x.bracket(0, 1000)).taxOn(1), 1);
            Checks.due("at a million", Checks.made(x -> x.bracket(MILLION, 1000)).taxOn(MILLION + 1), 1);
        });
        doc.test("rate: 0 to 1000", () -> {
            Checks.argumentRange(0, 1000, Samples::everyKind, (x, rate) -> x.bracket(500, rate));
            Checks.argumentRange(0, 1000, Samples::everyKind, (x, rate) -> x.bracket(7, rate));
        });
        doc.test("Returns how many brackets there are then.", () -> {
            TaxEngine x = new TaxEngine();
            Checks.due("the first one", x.bracket(MILLION, 0), 1);
            Checks.due("the same one", x.bracket(MILLION, 0), 1);
            for (int each = 1; each < 5; each++) {
                Checks.due("one more", x.bracket(each, 0), each + 1);
            }
            Checks.due("one of five changed", x.bracket(1, 5), 5);
        });
    }

    private static void bracketThrows(Sentences doc) {
        doc.test("Throws IllegalArgumentException if threshold or rate is out of range", () -> {
            Checks.badArgument("threshold -1", Samples::everyKind, x -> x.bracket(-1, 0));
            Checks.badArgument("threshold 1000001", Samples::everyKind, x -> x.bracket(MILLION + 1, 1000));
            Checks.badArgument("rate -1", Samples::everyKind, x -> x.bracket(0, -1));
            Checks.badArgument("rate 1001", Samples::everyKind, x -> x.bracket(MILLION, 1001));
            Checks.badArgument("both", Samples::everyKind, x -> x.bracket(-1, -1));
            Checks.badArgument("when there are five", Samples::full, x -> x.bracket(MILLION + 1, 0));
        });
        doc.test("Throws IllegalStateException if there is none with the threshold, and there are 5 brackets", () -> {
            for (int threshold : new int[] {1, 99, 101, 399, 401, MILLION}) {
                Checks.badState("threshold " + threshold, Samples::full, x -> x.bracket(threshold, 500));
            }
            for (int threshold = 0; threshold < 500; threshold += 100) {
                int each = threshold;
                Checks.taken("one with the threshold", Samples::full, x -> x.bracket(each, 500));
            }
            Checks.taken("there are 4", x -> {
                for (int each = 0; each < 4; each++) {
                    x.bracket(each, 0);
                }
            }, x -> x.bracket(4, 500));
        });
    }

    private static void dropBrackets(Sentences doc) {
        doc.test("Drops all brackets", () -> {
            TaxEngine x = Checks.made(Samples::full);
            x.dropBrackets();
            Checks.due("no tax", x.taxOn(BILLION), 0);
            for (int each = 0; each < 5; each++) {
                Checks.due("room for five", x.bracket(7 + each, 0), each + 1);
            }
        });
        doc.test("returns how many there were.", () -> {
            TaxEngine x = new TaxEngine();
            Checks.due("none", x.dropBrackets(), 0);
            x.bracket(MILLION, 0);
            Checks.due("one", x.dropBrackets(), 1);
            Checks.due("none again", x.dropBrackets(), 0);
            Checks.due("five", Checks.made(Samples::full).dropBrackets(), 5);
        });
    }

    private static void taxOn(Sentences doc) {
        doc.test("Returns the tax on a value.", () -> {
            TaxEngine x = Checks.made(Samples::everyKind);
            checkTaxes(x, new int[][] {{0, 0}, {9, 0}, {10, 1}, {499, 49}, {500, 50}, {504, 50}, {505, 51}, {1000, 150}});
        });
        doc.test("value: 0 to 1000000000", () -> Checks.argumentRange(0, BILLION, Samples::everyKind, (x, value) -> x.taxOn(value)));
        doc.test("Returns the tax.", () -> {
            TaxEngine x = Checks.made(y -> y.bracket(0, 1000));
            Checks.due("the least tax", x.taxOn(0), 0);
            Checks.due("the greatest tax", x.taxOn(BILLION), BILLION);
        });
        doc.test("Throws IllegalArgumentException if value is out of range", () -> {
            Checks.badArgument("value -1", Samples::everyKind, x -> x.taxOn(-1));
            Checks.badArgument("value 1000000001", Samples::everyKind, x -> x.taxOn(BILLION + 1));
            Checks.badArgument("without brackets", Samples::empty, x -> x.taxOn(-1));
        });
    }
}
