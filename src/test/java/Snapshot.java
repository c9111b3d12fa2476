import java.util.List;

/**
 * All that shows of an engine, as texts. Each view uses its engine up (years are closed and credits
 * dropped) and makes at most some 350 calls, so that with those before it they stay within 512.
 */
final class Snapshot {
    interface View {
        String of(TaxEngine engine);
    }

    static final List<View> VIEWS = List.of(Snapshot::lines, Snapshot::uses, Snapshot::money, Snapshot::years);

    private static final int LINES = 16;

    private Snapshot() {
    }

    private static String lines(TaxEngine engine) {
        StringBuilder text = new StringBuilder();
        for (int line = 0; line < LINES; line++) {
            text.append(" line ").append(line).append(" kind ").append(engine.kindOf(line));
            text.append(" value ").append(engine.value(line)).append(" influence ").append(engine.influence(line));
            text.append(" why");
            int reason = line;
            for (int place = 0; place <= LINES && reason != TaxEngine.NONE; place++) {
                reason = engine.why(line, place);
                text.append(' ').append(reason);
            }
        }
        return text.toString();
    }

    private static String uses(TaxEngine engine) {
        StringBuilder text = new StringBuilder();
        for (int line = 0; line < LINES; line++) {
            text.append(" uses ");
            for (int other = 0; other < LINES; other++) {
                text.append(engine.dependsOn(line, other) ? '1' : '0');
            }
            if (engine.kindOf(line) == TaxEngine.LIMIT) {
                text.append(" bound ").append(engine.boundFor(line, 7));
            }
        }
        return text.toString();
    }

    private static String money(TaxEngine engine) {
        StringBuilder text = new StringBuilder(" tax");
        for (int value = 1; value <= 100000000; value *= 10) {
            text.append(' ').append(engine.taxOn(value)).append(' ').append(engine.taxOn(3 * value));
        }
        text.append(" brackets ").append(engine.dropBrackets()).append(' ').append(engine.bracket(1, 1000));
        for (int dropped = 0; dropped < 6; dropped++) {
            text.append(" after ").append(engine.afterCredits(0)).append(" sum ").append(engine.bestSum(0));
            text.append(" none used ").append(engine.bestSum(15)).append(" first ");
            text.append(Checks.thrownBy(engine, x -> text.append(x.creditAt(0, 0))));
            text.append(" left ").append(Checks.thrownBy(engine, x -> text.append(x.dropCredit())));
        }
        text.append(" number ").append(engine.addCredit(9, 1000)).append(" sum ").append(engine.bestSum(15));
        return text.toString();
    }

    private static String years(TaxEngine engine) {
        StringBuilder text = new StringBuilder(" year ").append(engine.year()).append(" carried");
        for (int place = 0; place < 9; place++) {
            int each = place;
            text.append(' ').append(Checks.thrownBy(engine, x -> text.append(x.carriedAt(each))));
        }
        for (int closed = 0; closed <= 21; closed++) {
            text.append(' ').append(engine.carried()).append(" spent ").append(engine.closeYear());
        }
        text.append(" carried ").append(engine.carry(3, engine.year())).append(" answers");
        for (int line = 0; line < LINES; line++) {
            text.append(' ').append(engine.answer(line, 0));
        }
        return text.toString();
    }
}
