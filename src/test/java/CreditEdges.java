/** Edges of credits, and promises 18 to 22. */
final class CreditEdges {
    private static final int MILLION = Samples.MILLION;
    private static final int BILLION = Samples.BILLION;

    private CreditEdges() {
    }

    static void tests(Sentences doc) {
        doc.under("Credits");
        terms(doc);
        doc.under("Promise 18: addCredit");
        addCredit(doc);
        doc.under("Promise 19: dropCredit");
        dropCredit(doc);
        doc.under("Promise 20: creditAt");
        creditAt(doc);
        doc.under("Promise 21: afterCredits");
        afterCredits(doc);
        doc.under("Promise 22: bestSum");
        bestSum(doc);
    }

    // ---- terms

    private static void terms(Sentences doc) {
        doc.test("There are up to 5 credits, numbered from 0, each with an amount and a worth in thousandths.", () -> {
            TaxEngine x = new TaxEngine();
            for (int each = 0; each < 5; each++) {
                Checks.due("number", x.addCredit(1000, each), each);
            }
            Checks.due("a sixth one", Checks.thrownBy(x, y -> y.addCredit(1, 0)), "java.lang.IllegalStateException");
            Checks.due("all that they are worth", x.bestSum(0), 0 + 1 + 2 + 3 + 4);
            checkOrder(x, 0, 0, 1, 2, 3, 4);
        });
        doc.test("Against a tax, credits are used in some order: of each as much as its amount, or as there is left of the tax.", () -> {
            int[][] used = {{0, 0}, {1, 1}, {499, 499}, {500, 500}, {501, 501}, {999, 999}, {1000, 1000}, {1001, 1001},
                {1499, 1499}, {1500, 1500}, {1501, 1500}, {MILLION, 1500}};
            for (int[] each : used) {
                TaxEngine x = new TaxEngine();
                x.addCredit(1000, 0);
                x.addCredit(500, 0);
                x.answer(0, each[0]);
                Checks.due("used against " + each[0], x.bestSum(0), each[1]);
                Checks.due("left of " + each[0], x.afterCredits(0), each[0] - each[1]);
            }
        });
        doc.test("What is not used of a credit is worth its worth, multiplied by that, divided by 1000 and rounded down.", () -> {
            int[][] worths = {{1, 1000, 1}, {1, 999, 0}, {1, 0, 0}, {999, 1, 0}, {1000, 1, 1}, {1999, 1, 1}, {MILLION, 0, 0},
                {MILLION, 1, 1000}, {MILLION, 999, 999000}, {MILLION, 1000, MILLION}};
            for (int[] each : worths) {
                TaxEngine x = Checks.made(y -> y.addCredit(each[0], each[1]));
                Checks.due(each[0] + ", worth " + each[1], x.bestSum(0), each[2]);
            }
            TaxEngine x = new TaxEngine();
            x.addCredit(3, 500);
            x.addCredit(3, 500);
            Checks.due("halves are lost one by one", x.bestSum(0), 2);
        });
        doc.test("The best order is the one with the greatest sum of all that is used and of all that the rest is worth", () -> {
            TaxEngine x = Checks.made(CreditEdges::five);
            checkOrder(x, 0, 0, 1, 2, 3, 4);
            x.answer(0, 10);
            checkOrder(x, 0, 4, 0, 1, 2, 3);
            x.answer(0, 110);
            checkOrder(x, 0, 4, 3, 0, 1, 2);
            x.answer(0, 310);
            checkOrder(x, 0, 2, 3, 4, 1, 0);
            x.answer(0, 410);
            checkOrder(x, 0, 1, 2, 3, 4, 0);
        });
        doc.test("of several the one with the lower number of a credit at the first place at which they differ.", () -> {
            TaxEngine x = Checks.made(CreditEdges::five);
            x.answer(0, 500);
            checkOrder(x, 0, 0, 1, 2, 3, 4);
            x.answer(0, 200);
            checkOrder(x, 0, 3, 4, 0, 1, 2);
            x.answer(0, 300);
            checkOrder(x, 0, 2, 3, 4, 0, 1);
            TaxEngine y = new TaxEngine();
            for (int each = 0; each < 5; each++) {
                y.addCredit(10, 500);
            }
            for (int tax : new int[] {0, 1, 10, 25, 49, 50, 51}) {
                y.answer(0, tax);
                checkOrder(y, 0, 0, 1, 2, 3, 4);
            }
            TaxEngine z = Checks.made(CreditEdges::two);
            z.answer(15, 1);
            checkOrder(z, 15, 1, 0);
            z.dropCredit();
            z.dropCredit();
            z.addCredit(MILLION, 0);
            z.addCredit(1, 999);
            checkOrder(z, 0, 0, 1);
            Checks.due("the sum of which is 0", z.bestSum(0), 0);
        });
    }

    /** Each is worth less than the one before. */
    private static void five(TaxEngine x) {
        for (int each = 0; each < 5; each++) {
            x.addCredit(100, 1000 - 200 * each);
        }
    }

    /** The first one is worth all, the second one nothing. */
    private static void two(TaxEngine x) {
        x.addCredit(10, 1000);
        x.addCredit(10, 0);
    }

    private static void checkOrder(TaxEngine x, int line, int... due) {
        for (int place = 0; place < due.length; place++) {
            Checks.due("against " + x.value(line) + ", credit at " + place, x.creditAt(line, place), due[place]);
        }
    }

    // ---- promises 18 to 22

    private static void addCredit(Sentences doc) {
        doc.test("Adds a credit.", () -> {
            TaxEngine x = new TaxEngine();
            x.addCredit(1, 1000);
            Checks.due("worth 1", x.bestSum(0), 1);
            x.addCredit(MILLION, 1000);
            Checks.due("worth a million more", x.bestSum(0), MILLION + 1);
        });
        doc.test("amount: 1 to 1000000", () -> {
            Checks.argumentRange(1, MILLION, Samples::everyKind, (x, amount) -> x.addCredit(amount, 500));
        });
        doc.test("worth: 0 to 1000", () -> {
            Checks.argumentRange(0, 1000, Samples::everyKind, (x, worth) -> x.addCredit(500, worth));
        });
        doc.test("Returns its number.", () -> {
            TaxEngine x = new TaxEngine();
            Checks.due("the first one", x.addCredit(1, 0), 0);
            Checks.due("the same once more", x.addCredit(1, 0), 1);
            x.dropCredit();
            Checks.due("the number of one that was dropped", x.addCredit(MILLION, 1000), 1);
            x.addCredit(1, 0);
            x.addCredit(1, 0);
            Checks.due("the last one", x.addCredit(1, 0), 4);
        });
        doc.test("Throws IllegalArgumentException if amount or worth is out of range", () -> {
            Checks.badArgument("amount 0", Samples::everyKind, x -> x.addCredit(0, 500));
            Checks.badArgument("amount 1000001", Samples::everyKind, x -> x.addCredit(MILLION + 1, 500));
            Checks.badArgument("worth -1", Samples::everyKind, x -> x.addCredit(500, -1));
            Checks.badArgument("worth 1001", Samples::everyKind, x -> x.addCredit(500, 1001));
            Checks.badArgument("both", Samples::everyKind, x -> x.addCredit(0, -1));
            Checks.badArgument("when there are 5", Samples::full, x -> x.addCredit(0, 0));
        });
        doc.test("Throws IllegalStateException if there are 5 credits", () -> {
            Checks.badState("a sixth one", Samples::full, x -> x.addCredit(1, 0));
            Checks.badState("a sixth one", Samples::full, x -> x.addCredit(MILLION, 1000));
            Checks.taken("there are 4", x -> {
                Samples.full(x);
                x.dropCredit();
            }, x -> x.addCredit(1, 0));
        });
    }

    private static void dropCredit(Sentences doc) {
        doc.test("Drops the credit that was added last.", () -> {
            TaxEngine x = new TaxEngine();
            x.addCredit(1, 1000);
            x.addCredit(10, 1000);
            x.addCredit(100, 1000);
            x.dropCredit();
            Checks.due("the first two", x.bestSum(0), 11);
            x.addCredit(1000, 1000);
            x.dropCredit();
            x.dropCredit();
            Checks.due("the first one", x.bestSum(0), 1);
        });
        doc.test("Returns how many are left.", () -> {
            TaxEngine x = Checks.made(Samples::full);
            for (int left = 4; left >= 0; left--) {
                Checks.due("left", x.dropCredit(), left);
            }
        });
        doc.test("Throws IllegalStateException if there are none", () -> {
            Checks.badState("as the first call", Samples::empty, TaxEngine::dropCredit);
            Checks.badState("all were dropped", x -> {
                x.addCredit(1, 0);
                x.dropCredit();
            }, TaxEngine::dropCredit);
            Checks.taken("there is one", x -> x.addCredit(1, 0), TaxEngine::dropCredit);
        });
    }

    private static void creditAt(Sentences doc) {
        doc.test("Returns the credit at a place of the best order against the value of a line.", () -> {
            TaxEngine x = Checks.made(CreditEdges::five);
            x.answer(0, 150);
            x.define(15, TaxEngine.SHARE, 0, 500);
            checkOrder(x, 0, 4, 3, 0, 1, 2);
            checkOrder(x, 15, 4, 0, 1, 2, 3);
            checkOrder(x, 1, 0, 1, 2, 3, 4);
            checkOrder(Checks.made(Samples::full), 0, 0, 1, 2, 3, 4);
            TaxEngine y = Checks.made(CreditEdges::two);
            checkOrder(y, 0, 0, 1);
            y.answer(0, 1);
            checkOrder(y, 0, 1, 0);
        });
        doc.test("line: 0 to 15", () -> Checks.lineRange(Samples::everyKind, (x, line) -> x.creditAt(line, 0)));
        doc.test("place: 0 for the first credit", () -> {
            TaxEngine x = Checks.made(CreditEdges::five);
            x.answer(15, 10);
            Checks.due("the first credit", x.creditAt(15, 0), 4);
            Checks.due("the last credit", x.creditAt(15, 4), 3);
        });
        doc.test("Returns the number of the credit.", () -> {
            TaxEngine x = Checks.made(y -> y.addCredit(7, 1000));
            Checks.due("the only one", x.creditAt(0, 0), 0);
            x.addCredit(7, 500);
            x.answer(0, 7);
            Checks.due("the second one", x.creditAt(0, 0), 1);
        });
        doc.test("Throws IndexOutOfBoundsException if there is no such line", () -> {
            Checks.noLine("line -1", Samples::everyKind, x -> x.creditAt(-1, 0));
            Checks.noLine("line 16", Samples::everyKind, x -> x.creditAt(16, 0));
        });
        doc.test("or there are not so many credits", () -> {
            Checks.noLine("at 0 of none", Samples::empty, x -> x.creditAt(0, 0));
            Checks.noLine("at 2 of 2", Samples::everyKind, x -> x.creditAt(0, 2));
            Checks.taken("at 1 of 2", Samples::everyKind, x -> x.creditAt(0, 1));
            Checks.noLine("at 5 of 5", Samples::full, x -> x.creditAt(15, 5));
            Checks.taken("at 4 of 5", Samples::full, x -> x.creditAt(15, 4));
            Checks.noLine("at -1", Samples::full, x -> x.creditAt(0, -1));
            Checks.noLine("at the lowest place", Samples::full, x -> x.creditAt(0, Samples.LOWEST));
            Checks.noLine("at the highest place", Samples::full, x -> x.creditAt(0, Samples.HIGHEST));
        });
    }

    private static void afterCredits(Sentences doc) {
        doc.test("Returns what is left of the value of a line, as a tax, when all credits are used.", () -> {
            Checks.due("without credits", Checks.made(x -> x.answer(0, MILLION)).afterCredits(0), MILLION);
            TaxEngine x = Checks.made(CreditEdges::five);
            int[][] rests = {{0, 0}, {1, 0}, {499, 0}, {500, 0}, {501, 1}, {MILLION, MILLION - 500}};
            for (int[] each : rests) {
                x.answer(0, each[0]);
                Checks.due("after " + each[0], x.afterCredits(0), each[1]);
            }
            x.dropCredit();
            Checks.due("one less is used", x.afterCredits(0), MILLION - 400);
        });
        doc.test("line: 0 to 15", () -> {
            Checks.lineRange(Samples::everyKind, (x, line) -> x.afterCredits(line));
            Checks.due("line 0", Checks.made(x -> x.answer(0, 4)).afterCredits(0), 4);
            Checks.due("line 15", Checks.made(x -> x.answer(15, 5)).afterCredits(15), 5);
        });
        doc.test("Returns the rest of the tax, the same for all orders.", () -> {
            TaxEngine x = Checks.made(Samples::billion);
            Checks.due("the greatest one", x.afterCredits(11), BILLION);
            for (int each = 0; each < 5; each++) {
                x.addCredit(MILLION, 1000 - each);
            }
            Checks.due("less as much as there can be", x.afterCredits(11), BILLION - 5 * MILLION);
            Checks.due("the least one", x.afterCredits(0), 0);
        });
        doc.test("Throws IndexOutOfBoundsException if there is no such line", () -> {
            Checks.noLine("line -1", Samples::everyKind, x -> x.afterCredits(-1));
            Checks.noLine("line 16", Samples::everyKind, x -> x.afterCredits(16));
            Checks.noLine("without credits", Samples::empty, x -> x.afterCredits(16));
        });
    }

    private static void bestSum(Sentences doc) {
        doc.test("Returns the sum of all that is used and of all that the rest is worth, in the best order against the value of a line.", () -> {
            TaxEngine x = Checks.made(CreditEdges::five);
            int[][] sums = {{0, 100 + 80 + 60 + 40 + 20}, {1, 1 + 280 + 19}, {100, 100 + 280}, {101, 101 + 240 + 39}, {450, 450 + 50}, {500, 500}, {501, 500}};
            for (int[] each : sums) {
                x.answer(0, each[0]);
                Checks.due("against " + each[0], x.bestSum(0), each[1]);
            }
            Checks.due("without credits", Checks.made(y -> y.answer(0, 9)).bestSum(0), 0);
        });
        doc.test("line: 0 to 15", () -> {
            Checks.lineRange(Samples::everyKind, (x, line) -> x.bestSum(line));
            TaxEngine x = Checks.made(y -> y.addCredit(9, 0));
            x.answer(0, 4);
            x.answer(15, 5);
            Checks.due("line 0", x.bestSum(0), 4);
            Checks.due("line 15", x.bestSum(15), 5);
        });
        doc.test("Returns the sum.", () -> {
            TaxEngine x = Checks.made(Samples::billion);
            for (int each = 0; each < 5; each++) {
                x.addCredit(MILLION, 1000);
            }
            Checks.due("all is used", x.bestSum(11), 5 * MILLION);
            Checks.due("some is used", x.bestSum(0), 5 * MILLION);
            Checks.due("nothing is used", x.bestSum(15), 5 * MILLION);
            Checks.due("the least sum", Checks.made(y -> y.addCredit(MILLION, 0)).bestSum(0), 0);
        });
        doc.test("Throws IndexOutOfBoundsException if there is no such line", () -> {
            Checks.noLine("line -1", Samples::everyKind, x -> x.bestSum(-1));
            Checks.noLine("line 16", Samples::everyKind, x -> x.bestSum(16));
            Checks.noLine("without credits", Samples::empty, x -> x.bestSum(16));
        });
    }
}
