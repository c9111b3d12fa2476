/** Edges of years and of what is carried, and promises 13 to 17. */
final class YearEdges {
    private static final int MILLION = Samples.MILLION;

    private YearEdges() {
    }

    static void tests(Sentences doc) {
        doc.under("Years");
        terms(doc);
        closing(doc);
        doc.under("Promise 13: carry");
        carry(doc);
        carryThrows(doc);
        doc.under("Promise 14: carried");
        carried(doc);
        doc.under("Promise 15: carriedAt");
        carriedAt(doc);
        doc.under("Promise 16: year");
        doc.test("Returns the year.", () -> {
            TaxEngine x = new TaxEngine();
            for (int year = 0; year < 25; year++) {
                Checks.due("year", x.year(), year);
                x.closeYear();
            }
        });
        doc.under("Promise 17: closeYear");
        closeYear(doc);
    }

    // ---- terms

    private static void terms(Sentences doc) {
        doc.test("The year is 0 at first.", () -> Checks.due("year", new TaxEngine().year(), 0));
        doc.test("There are up to 8 amounts that are carried, each with a last year.", () -> {
            TaxEngine x = new TaxEngine();
            for (int each = 0; each < 8; each++) {
                x.carry(1 + each, 7 - each);
            }
            Checks.due("a ninth one", Checks.thrownBy(x, y -> y.carry(1, 0)), "java.lang.IllegalStateException");
            for (int year = 0; year < 8; year++) {
                Checks.due("one for each year", x.carriedAt(0), 8 - year);
                x.closeYear();
            }
            Checks.due("nothing is left", x.carried(), 0);
        });
        doc.test("An amount has expired when the year is greater than that.", () -> {
            for (int ahead : new int[] {0, 1, 20}) {
                TaxEngine x = Checks.made(YearEdges::third);
                x.carry(9, 3 + ahead);
                for (int year = 3; year < 3 + ahead; year++) {
                    x.closeYear();
                }
                Checks.due("in its last year", x.carried(), 9);
                Checks.due("in its last year", x.carriedAt(0), 9);
                x.closeYear();
                Checks.due("in the year after it", x.carried(), 0);
            }
        });
    }

    private static void third(TaxEngine x) {
        x.closeYear();
        x.closeYear();
        x.closeYear();
    }

    private static void closing(Sentences doc) {
        doc.test("When a year is closed, the values of all lines that are CARRY are spent", () -> {
            TaxEngine x = new TaxEngine();
            x.carry(100, 5);
            x.answer(0, 80);
            x.answer(2, 90);
            x.define(1, TaxEngine.CARRY, 0, 0);
            x.define(3, TaxEngine.REST, 2, 1);
            x.define(15, TaxEngine.CARRY, 3, 0);
            Checks.due("80, and 10 of what is left of the 90", x.closeYear(), 90);
            x.define(1, TaxEngine.LESSER, 0, 0);
            Checks.due("line 15 alone", x.closeYear(), 10);
            x.carry(100, 5);
            x.define(15, TaxEngine.INPUT, 0, 0);
            Checks.due("no line that is CARRY", x.closeYear(), 0);
        });
        doc.test("for each such line by rising number, as much as its value, or as there is left", () -> {
            checkSpent(100, 0, 0);
            checkSpent(100, 1, 2);
            checkSpent(100, 49, 98);
            checkSpent(100, 50, 100);
            checkSpent(100, 51, 100);
            checkSpent(100, 101, 100);
            TaxEngine x = Checks.made(Samples::full);
            x.define(0, TaxEngine.CARRY, 15, 0);
            for (int line = 1; line < 15; line++) {
                x.define(line, TaxEngine.CARRY, 0, 0);
            }
            Checks.due("15 lines of 828, and 828 are carried", x.closeYear(), 828);
        });
        doc.test("is taken from the amounts, those with the lesser last year first, of several the one that was added first", () -> {
            TaxEngine x = Checks.made(YearEdges::some);
            checkRow(x, 30, 5, 10, 50, 20, 70);
            x.answer(0, 30 + 5 + 10 + 49);
            x.closeYear();
            checkRow(x, 1, 20, 70);
            x.answer(0, 1);
            x.closeYear();
            checkRow(x, 20, 70);
        });
        doc.test("Amounts of which nothing is left", () -> {
            TaxEngine x = Checks.made(YearEdges::some);
            x.answer(0, 30 + 5 + 10 + 50 + 20);
            x.closeYear();
            checkRow(x, 70);
            x.answer(0, 70);
            x.closeYear();
            checkRow(x);
            for (int each = 0; each < 8; each++) {
                Checks.due("room for eight", x.carry(1, 2), each + 1);
            }
        });
        doc.test("and those that expire with the year, are dropped", () -> {
            TaxEngine x = Checks.made(YearEdges::some);
            x.answer(0, 1);
            x.closeYear();
            checkRow(x, 10, 50, 20, 70);
            x.answer(0, 0);
            x.closeYear();
            checkRow(x, 50, 20, 70);
            x.closeYear();
            x.closeYear();
            checkRow(x, 70);
        });
        doc.test("Answers stay.", () -> {
            TaxEngine x = Checks.made(Samples::everyKind);
            x.closeYear();
            Checks.due("of an INPUT", x.value(0), 1000);
            Checks.due("of line 15", x.answer(15, 0), 77);
            Checks.due("a line that is CARRY", x.kindOf(8), TaxEngine.CARRY);
            Checks.due("brackets stay too", x.dropBrackets(), 2);
            Checks.due("credits stay too", x.dropCredit(), 1);
        });
    }

    /** Line 1 is the CARRY of line 0; in the order in which they are spent: 30 and 5 (year 0), 10 (1), 50 and 20 (3), 70 (20). */
    private static void some(TaxEngine x) {
        x.carry(50, 3);
        x.carry(30, 0);
        x.carry(70, 20);
        x.carry(20, 3);
        x.carry(5, 0);
        x.carry(10, 1);
        x.define(1, TaxEngine.CARRY, 0, 0);
    }

    /** Two lines spend. */
    private static void checkSpent(int amount, int answer, int due) {
        TaxEngine x = new TaxEngine();
        x.carry(amount, 9);
        x.answer(7, answer);
        x.define(0, TaxEngine.CARRY, 7, 0);
        x.define(15, TaxEngine.CARRY, 7, 0);
        Checks.due("twice " + answer + " of " + amount, x.closeYear(), due);
        Checks.due("what is left of " + amount, x.carried(), amount - due);
    }

    private static void checkRow(TaxEngine x, int... due) {
        for (int place = 0; place < due.length; place++) {
            Checks.due("carried at " + place, x.carriedAt(place), due[place]);
        }
        Checks.due("behind the end", Checks.thrownBy(x, y -> y.carriedAt(due.length)), "java.lang.IndexOutOfBoundsException");
    }

    // ---- promises 13 to 17

    private static void carry(Sentences doc) {
        doc.test("Adds an amount that is carried.", () -> {
            TaxEngine x = new TaxEngine();
            x.carry(MILLION, 0);
            checkRow(x, MILLION);
            x.carry(1, 0);
            checkRow(x, MILLION, 1);
        });
        doc.test("amount: 1 to 1000000", () -> {
            Checks.argumentRange(1, MILLION, Samples::everyKind, (x, amount) -> x.carry(amount, 2));
        });
        doc.test("last: its last year, the year to the year plus 20", () -> {
            Checks.argumentRange(0, 20, Samples::everyKind, (x, last) -> x.carry(1, last));
            Checks.argumentRange(3, 23, YearEdges::third, (x, last) -> x.carry(1, last));
        });
        doc.test("Returns all that is carried then.", () -> {
            TaxEngine x = new TaxEngine();
            Checks.due("the first one", x.carry(MILLION, 0), MILLION);
            Checks.due("one more", x.carry(1, 20), MILLION + 1);
            x.closeYear();
            Checks.due("without what has expired", x.carry(2, 1), 3);
            TaxEngine y = new TaxEngine();
            for (int each = 1; each <= 8; each++) {
                Checks.due("as much as there can be", y.carry(MILLION, 20), each * MILLION);
            }
        });
    }

    private static void carryThrows(Sentences doc) {
        doc.test("Throws IllegalArgumentException if amount or last is out of range", () -> {
            Checks.badArgument("amount 0", Samples::everyKind, x -> x.carry(0, 0));
            Checks.badArgument("amount 1000001", Samples::everyKind, x -> x.carry(MILLION + 1, 20));
            Checks.badArgument("the year before", YearEdges::third, x -> x.carry(1, 2));
            Checks.badArgument("the year plus 21", YearEdges::third, x -> x.carry(1, 24));
            Checks.badArgument("the year before the first", Samples::everyKind, x -> x.carry(1, -1));
            Checks.badArgument("both", Samples::everyKind, x -> x.carry(-1, -1));
            Checks.badArgument("when there are 8", Samples::full, x -> x.carry(0, 1));
        });
        doc.test("Throws IllegalStateException if there are 8 amounts", () -> {
            Checks.badState("a ninth one", Samples::full, x -> x.carry(1, 1));
            Checks.badState("a ninth one", Samples::full, x -> x.carry(MILLION, 21));
            Checks.taken("there are 7", x -> {
                for (int each = 0; each < 7; each++) {
                    x.carry(1, 0);
                }
            }, x -> x.carry(1, 0));
            Checks.taken("one of 8 has expired", x -> {
                for (int each = 0; each < 8; each++) {
                    x.carry(1, each == 5 ? 0 : 1);
                }
                x.closeYear();
            }, x -> x.carry(1, 1));
        });
    }

    private static void carried(Sentences doc) {
        doc.test("Returns all that is carried.", () -> {
            Checks.due("nothing", new TaxEngine().carried(), 0);
            TaxEngine x = Checks.made(Samples::full);
            Checks.due("of 8 amounts", x.carried(), 828);
            x.define(14, TaxEngine.CARRY, 15, 0);
            x.closeYear();
            Checks.due("nothing is left", x.carried(), 0);
        });
    }

    private static void carriedAt(Sentences doc) {
        doc.test("Returns an amount that is carried, in the order in which they are spent.", () -> {
            TaxEngine x = Checks.made(YearEdges::some);
            checkRow(x, 30, 5, 10, 50, 20, 70);
            x.carry(6, 0);
            x.carry(7, 20);
            checkRow(x, 30, 5, 6, 10, 50, 20, 70, 7);
            checkRow(Checks.made(Samples::full), 107, 106, 105, 104, 103, 102, 101, 100);
        });
        doc.test("place: 0 for the first one", () -> {
            TaxEngine x = Checks.made(YearEdges::some);
            Checks.due("the first one", x.carriedAt(0), 30);
            x.closeYear();
            Checks.due("the first one of the next year", x.carriedAt(0), 10);
        });
        doc.test("Returns what is left of it.", () -> {
            TaxEngine x = new TaxEngine();
            x.carry(MILLION, 20);
            x.define(1, TaxEngine.CARRY, 0, 0);
            Checks.due("the greatest amount", x.carriedAt(0), MILLION);
            x.answer(0, MILLION - 1);
            x.closeYear();
            Checks.due("1 is left", x.carriedAt(0), 1);
        });
        doc.test("Throws IndexOutOfBoundsException if there are not so many", () -> {
            Checks.noLine("at 0 of none", Samples::empty, x -> x.carriedAt(0));
            Checks.noLine("at 2 of 2", Samples::everyKind, x -> x.carriedAt(2));
            Checks.taken("at 1 of 2", Samples::everyKind, x -> x.carriedAt(1));
            Checks.noLine("at 8 of 8", Samples::full, x -> x.carriedAt(8));
            Checks.taken("at 7 of 8", Samples::full, x -> x.carriedAt(7));
            Checks.noLine("at -1", Samples::full, x -> x.carriedAt(-1));
            Checks.noLine("at the lowest place", Samples::full, x -> x.carriedAt(Samples.LOWEST));
            Checks.noLine("at the highest place", Samples::full, x -> x.carriedAt(Samples.HIGHEST));
        });
    }

    private static void closeYear(Sentences doc) {
        doc.test("Closes the year", () -> {
            TaxEngine x = Checks.made(Samples::full);
            Checks.due("the year before", x.year(), 1);
            x.closeYear();
            Checks.due("the next year", x.year(), 2);
            Checks.due("last years count from it", Checks.thrownBy(x, y -> y.carry(1, 1)), "java.lang.IllegalArgumentException");
            x.closeYear();
            Checks.due("and the next", x.year(), 3);
        });
        doc.test("returns how much was spent.", () -> {
            Checks.due("nothing, as the first call", new TaxEngine().closeYear(), 0);
            Checks.due("what expires is not spent", Checks.made(x -> x.carry(5, 0)).closeYear(), 0);
            Checks.due("nothing is carried", Checks.made(x -> x.define(0, TaxEngine.CARRY, 15, 0)).closeYear(), 0);
            TaxEngine x = Checks.made(Samples::billion);
            for (int each = 0; each < 8; each++) {
                x.carry(MILLION, 20);
            }
            x.define(15, TaxEngine.CARRY, 11, 0);
            Checks.due("as much as there can be", x.closeYear(), 8 * MILLION);
            Checks.due("nothing is left", x.closeYear(), 0);
        });
    }
}
