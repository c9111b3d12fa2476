/** What the tests share: they count what is wrong, and end with exit code 1 if anything was. */
final class Checks {
    interface Call {
        void on(TaxEngine engine);
    }

    interface NumberCall {
        void on(TaxEngine engine, int number);
    }

    private static int wrong = 0;
    private static int made = 0;
    private static String about = "";

    private Checks() {
    }

    /** Tells what the checks that follow are about, for the text of a fault. */
    static void about(String text) {
        about = text;
    }

    static int made() {
        return made;
    }

    static void due(String what, long got, long want) {
        made++;
        if (got != want) {
            fault(what + " answered " + got + ", due is " + want);
        }
    }

    static void due(String what, boolean got, boolean want) {
        due(what, got ? 1 : 0, want ? 1 : 0);
    }

    static void due(String what, String got, String want) {
        made++;
        if (!got.equals(want)) {
            fault(what + " answered\n  " + got + "\ndue is\n  " + want);
        }
    }

    /** Makes the same engine twice, makes the call on one of them alone, and compares all that shows. */
    static void unchanged(String what, Call recipe, Call call) {
        for (Snapshot.View view : Snapshot.VIEWS) {
            TaxEngine engine = made(recipe);
            thrownBy(engine, call);
            due(what + " leaves the state", view.of(engine), view.of(made(recipe)));
        }
    }

    static void refused(String what, Class<? extends RuntimeException> wanted, Call recipe, Call call) {
        due(what + " throws", thrownBy(made(recipe), call), wanted.getName());
        unchanged(what, recipe, call);
    }

    static void noLine(String what, Call recipe, Call call) {
        refused(what, IndexOutOfBoundsException.class, recipe, call);
    }

    static void badArgument(String what, Call recipe, Call call) {
        refused(what, IllegalArgumentException.class, recipe, call);
    }

    static void badState(String what, Call recipe, Call call) {
        refused(what, IllegalStateException.class, recipe, call);
    }

    static void taken(String what, Call recipe, Call call) {
        due(what + " throws", thrownBy(made(recipe), call), "nothing");
    }

    /** A line from 0 to 15 is taken; what lies just outside, or as far as can be, is refused. */
    static void lineRange(Call recipe, NumberCall call) {
        range(0, 15, IndexOutOfBoundsException.class, recipe, call);
    }

    static void argumentRange(int least, int most, Call recipe, NumberCall call) {
        range(least, most, IllegalArgumentException.class, recipe, call);
    }

    private static void range(int least, int most, Class<? extends RuntimeException> wanted, Call recipe, NumberCall call) {
        taken("the least, " + least, recipe, x -> call.on(x, least));
        taken("the greatest, " + most, recipe, x -> call.on(x, most));
        int[] outside = {least - 1, most + 1, Integer.MIN_VALUE, Integer.MAX_VALUE};
        for (int each : outside) {
            refused("out of range, " + each, wanted, recipe, x -> call.on(x, each));
        }
    }

    static TaxEngine made(Call recipe) {
        TaxEngine engine = new TaxEngine();
        recipe.on(engine);
        return engine;
    }

    static String thrownBy(TaxEngine engine, Call call) {
        try {
            call.on(engine);
        } catch (RuntimeException e) {
            return e.getClass().getName();
        }
        return "nothing";
    }

    static void fault(String text) {
        wrong++;
        System.out.println((about.isEmpty() ? "" : about + ": ") + text);
    }

    static void end() {
        if (wrong > 0) {
            System.out.println(wrong + " of " + made + " checks are wrong");
            System.exit(1);
        }
        System.out.println(made + " checks are as due");
    }
}
