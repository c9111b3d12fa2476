/** Promises 18 to 22. */
public final class CreditsTest {
    private static final int MILLION = 1000000;
    private static final int BILLION = 1000000000;

    public static void main(String[] args) {
        addCredit();
        addCreditRefuses();
        dropCredit();
        bestOrder();
        bestOrderOfEqualSums();
        worthIsRoundedDown();
        creditAtRefuses();
        afterCredits();
        bestSum();
        bestSumRefuses();
        Checks.end();
    }

    private static void three(TaxEngine x) {
        x.addCredit(50, 1000);
        x.addCredit(80, 500);
        x.addCredit(30, 0);
        x.answer(0, 90);
    }

    private static void full(TaxEngine x) {
        three(x);
        x.addCredit(MILLION, 999);
        x.addCredit(1, 1);
    }

    private static void order(String what, TaxEngine x, int line, int... due) {
        for (int place = 0; place < due.length; place++) {
            Checks.due(what + ": credit at " + place, x.creditAt(line, place), due[place]);
        }
    }

    private static void addCredit() {
        TaxEngine x = new TaxEngine();
        Checks.due("number", x.addCredit(1, 0), 0);
        Checks.due("number", x.addCredit(MILLION, 1000), 1);
        Checks.due("number", x.addCredit(1, 0), 2);
        Checks.due("number", x.addCredit(7, 500), 3);
        Checks.due("number", x.addCredit(7, 500), 4);
        Checks.due("worth at no tax", x.bestSum(15), MILLION + 3 + 3);
    }

    private static void addCreditRefuses() {
        Checks.badArgument("amount 0", CreditsTest::three, x -> x.addCredit(0, 0));
        Checks.badArgument("amount -1", CreditsTest::three, x -> x.addCredit(-1, 0));
        Checks.badArgument("amount too great", CreditsTest::three, x -> x.addCredit(MILLION + 1, 0));
        Checks.badArgument("worth -1", CreditsTest::three, x -> x.addCredit(1, -1));
        Checks.badArgument("worth 1001", CreditsTest::three, x -> x.addCredit(1, 1001));
        Checks.badArgument("worth before room", CreditsTest::full, x -> x.addCredit(1, 1001));
        Checks.badState("a sixth one", CreditsTest::full, x -> x.addCredit(1, 1));
    }

    private static void dropCredit() {
        TaxEngine x = Checks.made(CreditsTest::three);
        Checks.due("left", x.dropCredit(), 2);
        Checks.due("of the first two", x.bestSum(0), 80 + 10 + 40);
        Checks.due("the number again", x.addCredit(5, 5), 2);
        Checks.due("left", x.dropCredit(), 2);
        Checks.due("left", x.dropCredit(), 1);
        Checks.due("left", x.dropCredit(), 0);
        Checks.due("nothing", x.bestSum(0), 0);
        Checks.badState("none", y -> y.answer(0, 3), TaxEngine::dropCredit);
    }

    private static void bestOrder() {
        TaxEngine x = Checks.made(CreditsTest::three);
        order("least worth first", x, 0, 2, 1, 0);
        Checks.due("30 and 60 are used, 20 and 50 are left", x.bestSum(0), 90 + 10 + 50);
        x.answer(0, 30);
        order("a small tax", x, 0, 2, 0, 1);
        Checks.due("its sum", x.bestSum(0), 30 + 50 + 40);
        x.answer(0, 0);
        order("no tax", x, 0, 0, 1, 2);
        x.answer(0, 160);
        order("all are used", x, 0, 0, 1, 2);
        Checks.due("its sum", x.bestSum(0), 160);
        x.answer(0, 159);
        order("all but one", x, 0, 1, 2, 0);
        TaxEngine y = new TaxEngine();
        for (int number = 0; number < 5; number++) {
            y.addCredit(100, 1000 - 200 * number);
        }
        y.answer(0, 450);
        order("the other way round", y, 0, 1, 2, 3, 4, 0);
        y.answer(0, 150);
        order("two are used", y, 0, 4, 3, 0, 1, 2);
        y.define(1, TaxEngine.SHARE, 0, 500);
        order("against another line", y, 1, 4, 0, 1, 2, 3);
    }

    private static void bestOrderOfEqualSums() {
        TaxEngine x = new TaxEngine();
        for (int number = 0; number < 5; number++) {
            x.addCredit(10, 300);
        }
        x.answer(15, 25);
        order("all the same", x, 15, 0, 1, 2, 3, 4);
        x.dropCredit();
        x.addCredit(10, 0);
        order("one that is worth nothing", x, 15, 0, 4, 1, 2, 3);
        Checks.due("its sum", x.bestSum(15), 25 + 2 * 3 + 1);
    }

    private static void worthIsRoundedDown() {
        TaxEngine x = new TaxEngine();
        x.addCredit(3, 500);
        x.addCredit(4, 500);
        x.answer(0, 1);
        order("half a unit is lost by the first one", x, 0, 0, 1);
        Checks.due("1 + 1 + 2", x.bestSum(0), 4);
        x.answer(0, 4);
        order("4 of the other", x, 0, 0, 1);
        Checks.due("3 + 1, and 3 halves", x.bestSum(0), 5);
        x.addCredit(4, 499);
        Checks.due("4 used, halves kept", x.bestSum(0), 4 + 1 + 2);
        order("the lowest of the orders that lose least", x, 0, 0, 2, 1);
    }

    private static void creditAtRefuses() {
        Checks.noLine("line 16", CreditsTest::three, x -> x.creditAt(16, 0));
        Checks.noLine("line -1", CreditsTest::three, x -> x.creditAt(-1, 0));
        Checks.noLine("place 3", CreditsTest::three, x -> x.creditAt(0, 3));
        Checks.noLine("place -1", CreditsTest::three, x -> x.creditAt(15, -1));
        Checks.noLine("place 5", CreditsTest::full, x -> x.creditAt(15, 5));
        Checks.noLine("no credits", x -> x.answer(0, 5), x -> x.creditAt(0, 0));
    }

    private static void afterCredits() {
        TaxEngine x = Checks.made(CreditsTest::three);
        Checks.due("all is paid", x.afterCredits(0), 0);
        x.answer(0, 160);
        Checks.due("just paid", x.afterCredits(0), 0);
        x.answer(0, 161);
        Checks.due("one is left", x.afterCredits(0), 1);
        Checks.due("no tax", x.afterCredits(15), 0);
        x.answer(0, MILLION);
        Checks.due("much is left", x.afterCredits(0), MILLION - 160);
        x.define(15, TaxEngine.SUM, 0, 0);
        Checks.due("of two millions", x.afterCredits(15), 2 * MILLION - 160);
        x.dropCredit();
        Checks.due("one credit is dropped", x.afterCredits(0), MILLION - 130);
        Checks.noLine("line 16", CreditsTest::three, y -> y.afterCredits(16));
        Checks.noLine("line -1", CreditsTest::three, y -> y.afterCredits(-1));
    }

    private static void bestSum() {
        TaxEngine x = new TaxEngine();
        x.answer(0, MILLION);
        for (int line = 1; line < 16; line++) {
            x.define(line, TaxEngine.SUM, line - 1, line - 1);
        }
        for (int number = 0; number < 5; number++) {
            x.addCredit(MILLION, 1000);
        }
        Checks.due("five millions", x.bestSum(0), 5 * MILLION);
        Checks.due("five millions", x.bestSum(15), 5 * MILLION);
        Checks.due("of a billion", x.afterCredits(15), BILLION - 5 * MILLION);
        TaxEngine y = Checks.made(CreditsTest::full);
        y.answer(0, MILLION);
        y.dropCredit();
        Checks.due("160 are left of the greatest one", y.bestSum(0), MILLION + 159);
    }

    private static void bestSumRefuses() {
        Checks.noLine("line 16", CreditsTest::three, x -> x.bestSum(16));
        Checks.noLine("line -1", CreditsTest::three, x -> x.bestSum(-1));
    }
}
