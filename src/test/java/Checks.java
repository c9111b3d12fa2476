/** What the tests share: they count what is wrong, and end with exit code 1 if anything was. */
final class Checks {
    interface Call {
        void on(TaxEngine engine);
    }

    private static int wrong = 0;
    private static int made = 0;

    private Checks() {
    }

    static void due(String what, long got, long want) {
        made++;
        if (got != want) {
            fault(what + " answered " + got + ", due is " + want);
        }
    }

    static void due(String what, boolean got, boolean want) {
        due(what, got ? 1 : 0, want ? 1 : 0);
    }

    static void due(String what, String got, String want) {
        made++;
        if (!got.equals(want)) {
            fault(what + " answered\n  " + got + "\ndue is\n  " + want);
        }
    }

    /** Makes the same engine twice, makes the call on one of them alone, and compares all that shows. */
    static void refused(String what, Class<? extends RuntimeException> wanted, Call recipe, Call call) {
        TaxEngine engine = made(recipe);
        due(what + " throws", thrownBy(engine, call), wanted.getName());
        due(what + " leaves the state", Snapshot.of(engine), Snapshot.of(made(recipe)));
    }

    static void noLine(String what, Call recipe, Call call) {
        refused(what, IndexOutOfBoundsException.class, recipe, call);
    }

    static void badArgument(String what, Call recipe, Call call) {
        refused(what, IllegalArgumentException.class, recipe, call);
    }

    static void badState(String what, Call recipe, Call call) {
        refused(what, IllegalStateException.class, recipe, call);
    }

    static TaxEngine made(Call recipe) {
        TaxEngine engine = new TaxEngine();
        recipe.on(engine);
        return engine;
    }

    static String thrownBy(TaxEngine engine, Call call) {
        try {
            call.on(engine);
        } catch (RuntimeException e) {
            return e.getClass().getName();
        }
        return "nothing";
    }

    static void fault(String text) {
        wrong++;
        System.out.println(text);
    }

    static void end() {
        if (wrong > 0) {
            System.out.println(wrong + " of " + made + " checks are wrong");
            System.exit(1);
        }
        System.out.println(made + " checks are as due");
    }
}
