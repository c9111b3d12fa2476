/** All that shows of an engine, as a text. It uses the engine up: years are closed and credits dropped. */
final class Snapshot {
    private static final int LINES = 16;

    private Snapshot() {
    }

    static String of(TaxEngine engine) {
        StringBuilder text = new StringBuilder();
        addLines(text, engine);
        addCircles(text, engine);
        addBrackets(text, engine);
        addCredits(text, engine);
        addYears(text, engine);
        addAnswers(text, engine);
        return text.toString();
    }

    private static void addLines(StringBuilder text, TaxEngine engine) {
        for (int line = 0; line < LINES; line++) {
            text.append(" line ").append(line).append(" kind ").append(engine.kindOf(line));
            text.append(" value ").append(engine.value(line)).append(" influence ").append(engine.influence(line));
            text.append(" why");
            for (int place = 0; place <= LINES && engine.why(line, place) != TaxEngine.NONE; place++) {
                text.append(' ').append(engine.why(line, place));
            }
        }
    }

    private static void addCircles(StringBuilder text, TaxEngine engine) {
        text.append(" uses ");
        for (int line = 0; line < LINES; line++) {
            for (int other = 0; other < 5; other++) {
                text.append(engine.dependsOn(line, other) ? '1' : '0');
            }
            if (engine.kindOf(line) == TaxEngine.LIMIT) {
                text.append(" bound ").append(engine.boundFor(line, 7)).append(' ');
            }
        }
    }

    private static void addBrackets(StringBuilder text, TaxEngine engine) {
        text.append(" tax");
        for (int value = 1; value <= 1000000000; value *= 10) {
            text.append(' ').append(engine.taxOn(value));
        }
        text.append(" brackets ").append(engine.dropBrackets());
    }

    private static void addCredits(StringBuilder text, TaxEngine engine) {
        boolean more = true;
        while (more) {
            text.append(" after ").append(engine.afterCredits(0)).append(" sum ").append(engine.bestSum(0));
            text.append(" none used ").append(engine.bestSum(15));
            more = Checks.thrownBy(engine, TaxEngine::dropCredit).equals("nothing");
        }
    }

    private static void addYears(StringBuilder text, TaxEngine engine) {
        text.append(" year ").append(engine.year()).append(" carried");
        for (int closed = 0; closed <= 21; closed++) {
            text.append(' ').append(engine.carried()).append(" spent ").append(engine.closeYear());
        }
    }

    private static void addAnswers(StringBuilder text, TaxEngine engine) {
        text.append(" answers");
        for (int line = 0; line < LINES; line++) {
            text.append(' ').append(engine.answer(line, 0));
        }
    }
}
