/** Promises 13 to 17. */
public final class YearsTest {
    private static final int MILLION = 1000000;

    public static void main(String[] args) {
        carry();
        carryRefuses();
        lastYears();
        carried();
        carriedAt();
        carriedAtRefuses();
        year();
        closeYearSpendsInOrder();
        closeYearSpendsByLines();
        closeYearWorksValuesOutFirst();
        closeYearDrops();
        Checks.end();
    }

    private static void full(TaxEngine x) {
        x.closeYear();
        for (int place = 0; place < 8; place++) {
            x.carry(10 + place, 9 - place);
        }
        x.answer(0, 15);
        x.define(1, TaxEngine.CARRY, 0, 0);
    }

    private static void some(TaxEngine x) {
        x.closeYear();
        x.closeYear();
        x.carry(5, 2);
        x.carry(7, 22);
        x.answer(0, 6);
        x.define(1, TaxEngine.CARRY, 0, 0);
    }

    private static void carry() {
        TaxEngine x = new TaxEngine();
        Checks.due("1", x.carry(1, 0), 1);
        Checks.due("and a million", x.carry(MILLION, 20), MILLION + 1);
        for (int more = 2; more < 8; more++) {
            Checks.due("and more", x.carry(MILLION, more), more * MILLION + 1);
        }
        Checks.due("all", x.carried(), 7 * MILLION + 1);
    }

    private static void carryRefuses() {
        Checks.badArgument("amount 0", YearsTest::some, x -> x.carry(0, 3));
        Checks.badArgument("amount -1", YearsTest::some, x -> x.carry(-1, 3));
        Checks.badArgument("amount too great", YearsTest::some, x -> x.carry(MILLION + 1, 3));
        Checks.badArgument("last before the year", YearsTest::some, x -> x.carry(1, 1));
        Checks.badArgument("last 21 years ahead", YearsTest::some, x -> x.carry(1, 23));
        Checks.badArgument("last highest", YearsTest::some, x -> x.carry(1, Integer.MAX_VALUE));
        Checks.badState("a ninth amount", YearsTest::full, x -> x.carry(1, 3));
        Checks.badArgument("amount before room", YearsTest::full, x -> x.carry(0, 3));
        Checks.badArgument("last before room", YearsTest::full, x -> x.carry(1, 0));
    }

    private static void lastYears() {
        TaxEngine x = Checks.made(YearsTest::some);
        Checks.due("the year itself", x.carry(1, 2), 13);
        Checks.due("20 years ahead", x.carry(1, 22), 14);
        x.define(1, TaxEngine.INPUT, 0, 0);
        x.closeYear();
        Checks.due("the year has gone by", x.carried(), 8);
        for (int closed = 3; closed < 22; closed++) {
            x.closeYear();
        }
        Checks.due("in the last year", x.carried(), 8);
        x.closeYear();
        Checks.due("after the last year", x.carried(), 0);
    }

    private static void carried() {
        TaxEngine x = Checks.made(YearsTest::full);
        Checks.due("all", x.carried(), 8 * 10 + 28);
        x.closeYear();
        Checks.due("what is left", x.carried(), 8 * 10 + 28 - 15);
    }

    private static void carriedAt() {
        TaxEngine x = new TaxEngine();
        x.carry(500, 2);
        x.carry(300, 0);
        x.carry(200, 2);
        x.carry(100, 1);
        x.carry(50, 0);
        int[] row = {300, 50, 100, 500, 200};
        for (int place = 0; place < row.length; place++) {
            Checks.due("carried at " + place, x.carriedAt(place), row[place]);
        }
        x.answer(0, 360);
        x.define(1, TaxEngine.CARRY, 0, 0);
        x.closeYear();
        Checks.due("partly spent", x.carriedAt(0), 90);
        Checks.due("the next one", x.carriedAt(1), 500);
        x.carry(7, 2);
        Checks.due("added last of the year", x.carriedAt(3), 7);
        x.carry(8, 1);
        Checks.due("a lesser last year", x.carriedAt(1), 8);
    }

    private static void carriedAtRefuses() {
        Checks.noLine("none", x -> x.answer(0, 1), x -> x.carriedAt(0));
        Checks.noLine("at 2", YearsTest::some, x -> x.carriedAt(2));
        Checks.noLine("at -1", YearsTest::some, x -> x.carriedAt(-1));
        Checks.noLine("at 8", YearsTest::full, x -> x.carriedAt(8));
        Checks.noLine("at highest", YearsTest::full, x -> x.carriedAt(Integer.MAX_VALUE));
    }

    private static void year() {
        TaxEngine x = new TaxEngine();
        for (int year = 0; year < 100; year++) {
            Checks.due("year", x.year(), year);
            Checks.due("nothing spent", x.closeYear(), 0);
        }
    }

    private static void closeYearSpendsInOrder() {
        TaxEngine x = new TaxEngine();
        x.carry(500, 2);
        x.carry(300, 1);
        x.carry(200, 2);
        x.answer(0, 350);
        x.define(1, TaxEngine.CARRY, 0, 0);
        Checks.due("spent", x.closeYear(), 350);
        Checks.due("of the second one", x.carriedAt(0), 450);
        Checks.due("not of the third one", x.carriedAt(1), 200);
        Checks.due("the value is not what was spent", x.value(1), 350);
        Checks.due("spent again", x.closeYear(), 350);
        Checks.due("left of the first one", x.carriedAt(0), 100);
        Checks.due("the rest", x.closeYear(), 300);
        Checks.due("nothing", x.closeYear(), 0);
        Checks.due("nothing", x.value(1), 0);
        Checks.due("the answer stays", x.value(0), 350);
        Checks.due("the year", x.year(), 4);
    }

    private static void closeYearSpendsByLines() {
        TaxEngine x = new TaxEngine();
        x.carry(100, 0);
        x.carry(100, 5);
        x.answer(7, 60);
        x.define(0, TaxEngine.CARRY, 7, 0);
        x.define(15, TaxEngine.CARRY, 7, 0);
        Checks.due("two lines", x.closeYear(), 120);
        Checks.due("left", x.carried(), 80);
        Checks.due("as there is left", x.closeYear(), 80);
        Checks.due("left", x.carried(), 0);
        TaxEngine y = new TaxEngine();
        y.carry(100, 0);
        y.answer(7, 100);
        y.define(0, TaxEngine.LESSER, 7, 7);
        Checks.due("other kinds spend nothing", y.closeYear(), 0);
    }

    private static void closeYearWorksValuesOutFirst() {
        TaxEngine x = new TaxEngine();
        x.carry(100, 5);
        x.answer(0, 80);
        x.define(1, TaxEngine.CARRY, 0, 0);
        x.answer(2, 90);
        x.define(3, TaxEngine.REST, 2, 1);
        x.define(4, TaxEngine.CARRY, 3, 0);
        x.define(5, TaxEngine.CARRY, 1, 0);
        Checks.due("80 and 10, and 10 that are left of 100", x.closeYear(), 100);
        x.carry(120, 5);
        x.define(5, TaxEngine.INPUT, 0, 0);
        Checks.due("80 and 10", x.closeYear(), 90);
        Checks.due("left", x.carried(), 30);
        Checks.due("30, and 60 of which nothing is there", x.closeYear(), 30);
    }

    private static void closeYearDrops() {
        TaxEngine x = Checks.made(YearsTest::full);
        Checks.due("spent", x.closeYear(), 15);
        x.define(1, TaxEngine.INPUT, 0, 0);
        Checks.due("none is empty", x.carriedAt(0), 17 - 15);
        x.closeYear();
        Checks.due("the one of year 2 has expired", x.carriedAt(0), 16);
        Checks.due("room again", x.carry(3, 23), 10 + 11 + 12 + 13 + 14 + 15 + 16 + 3);
        Checks.noLine("no ninth", YearsTest::full, y -> y.carriedAt(8));
        TaxEngine z = Checks.made(YearsTest::full);
        z.answer(0, 17);
        Checks.due("just the first one", z.closeYear(), 17);
        Checks.due("it is dropped", z.carriedAt(0), 16);
        Checks.due("room for one", z.carry(1, 2), 10 + 11 + 12 + 13 + 14 + 15 + 16 + 1);
        Checks.due("it is full", Checks.thrownBy(z, y -> y.carry(1, 3)), "java.lang.IllegalStateException");
    }
}
