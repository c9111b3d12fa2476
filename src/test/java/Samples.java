/** Engines to begin with. */
final class Samples {
    static final int MILLION = 1000000;
    static final int BILLION = 1000000000;
    static final int LOWEST = Integer.MIN_VALUE;
    static final int HIGHEST = Integer.MAX_VALUE;

    /** How many calls everyKind makes. */
    static final int CALLS_OF_EVERY_KIND = 18;

    private Samples() {
    }

    static void empty(TaxEngine x) {
    }

    /** Every kind stands, and lines 9 and 10 are a circle. */
    static void everyKind(TaxEngine x) {
        x.answer(0, 1000);
        x.answer(1, 300);
        x.answer(15, 77);
        x.bracket(0, 100);
        x.bracket(500, 200);
        x.carry(150, 3);
        x.carry(40, 1);
        x.addCredit(50, 0);
        x.addCredit(80, 500);
        x.define(2, TaxEngine.REST, 0, 1);
        x.define(3, TaxEngine.TAX, 2, 0);
        x.define(4, TaxEngine.SHARE, 0, 250);
        x.define(5, TaxEngine.LESSER, 4, 3);
        x.define(6, TaxEngine.GREATER, 4, 3);
        x.define(7, TaxEngine.SUM, 5, 6);
        x.define(8, TaxEngine.CARRY, 7, 0);
        x.define(9, TaxEngine.LIMIT, 0, 10);
        x.define(10, TaxEngine.REST, 1, 9);
    }

    /** 5 brackets, 8 amounts, 5 credits, and as many lines in one circle as there can be; the year is 1. */
    static void full(TaxEngine x) {
        x.closeYear();
        for (int each = 0; each < 5; each++) {
            x.bracket(100 * each, 100 + 200 * each);
            x.addCredit(10 + each, 1000 - 200 * each);
        }
        for (int each = 0; each < 8; each++) {
            x.carry(100 + each, 21 - each);
        }
        x.answer(15, 1000);
        fifteen(x);
    }

    /** Lines 0 to 14 are one circle: 0 is the LIMIT, 14 what it leaves of line 15, and 1 to 13 just hand that on. */
    static void fifteen(TaxEngine x) {
        for (int line = 1; line < 14; line++) {
            x.define(line, TaxEngine.SHARE, line + 1, 1000);
        }
        x.define(14, TaxEngine.REST, 15, 0);
        x.define(0, TaxEngine.LIMIT, 15, 1);
    }

    /** A limit that is half of what is left: 2 = LIMIT(1, 4), 3 = 0 less 2, 4 = half of 3. */
    static void half(TaxEngine x) {
        x.answer(0, 1000);
        x.answer(1, 900);
        x.define(3, TaxEngine.REST, 0, 2);
        x.define(4, TaxEngine.SHARE, 3, 500);
        x.define(2, TaxEngine.LIMIT, 1, 4);
    }

    /** Line 11 is just a billion, line 10 the half of it; no sum is cut on the way. Lines 12 to 15 are free. */
    static void billion(TaxEngine x) {
        x.answer(0, MILLION);
        x.answer(1, 953125);
        x.define(2, TaxEngine.SUM, 0, 1);
        for (int line = 3; line <= 11; line++) {
            x.define(line, TaxEngine.SUM, line - 1, line - 1);
        }
    }
}
