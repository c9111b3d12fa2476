import java.util.ArrayList;
import java.util.List;
import java.util.function.ToIntFunction;

/** Edges of calls as such: the 512th one, questions, and calls that throw. */
final class CallEdges {
    private static final int LAST_CALL = 512;

    private CallEdges() {
    }

    static void tests(Sentences doc) {
        doc.under("What it is");
        doc.test("at most 512 calls after it has been made", CallEdges::eachCallAsThe512th);
        doc.test("at most 512 calls after it has been made", CallEdges::theSameQuestion512Times);
        doc.test("at most 512 calls after it has been made", CallEdges::changesUpToThe512th);
        doc.under("Terms");
        doc.test("Questions change nothing.", CallEdges::questionsChangeNothing);
        exceptions(doc);
    }

    private static void exceptions(Sentences doc) {
        doc.under("Exceptions");
        doc.test("IndexOutOfBoundsException: there is no such line, credit or place.", () -> {
            TaxEngine x = Checks.made(Samples::full);
            List<Checks.Call> calls = List.of(y -> y.value(16), y -> y.value(-1), y -> y.creditAt(0, 5), y -> y.creditAt(0, -1),
                y -> y.carriedAt(8), y -> y.carriedAt(-1), y -> y.why(0, -1));
            for (Checks.Call call : calls) {
                Checks.due("throws", Checks.thrownBy(x, call), "java.lang.IndexOutOfBoundsException");
            }
        });
        doc.test("IllegalArgumentException: another argument is out of its range, or not of the kind that is told.", () -> {
            TaxEngine x = Checks.made(Samples::everyKind);
            List<Checks.Call> calls = List.of(y -> y.define(0, 9, 1, 1), y -> y.answer(0, -1), y -> y.boundFor(9, -1),
                y -> y.bracket(-1, 0), y -> y.taxOn(-1), y -> y.carry(0, 0), y -> y.addCredit(0, 0));
            for (Checks.Call call : calls) {
                Checks.due("throws", Checks.thrownBy(x, call), "java.lang.IllegalArgumentException");
            }
        });
        doc.test("IllegalStateException: as the method tells.", () -> {
            TaxEngine x = Checks.made(Samples::full);
            List<Checks.Call> calls = List.of(y -> y.define(15, TaxEngine.SHARE, 15, 0), y -> y.boundFor(1, 0), y -> y.bracket(1, 0),
                y -> y.carry(1, 1), y -> y.addCredit(1, 0));
            for (Checks.Call call : calls) {
                Checks.due("throws", Checks.thrownBy(x, call), "java.lang.IllegalStateException");
            }
            Checks.due("throws", Checks.thrownBy(new TaxEngine(), TaxEngine::dropCredit), "java.lang.IllegalStateException");
        });
        doc.test("If several apply, the one that is named first in the throws clause is thrown.", CallEdges::firstNamedFirst);
        doc.test("A call that throws an exception changes nothing.", CallEdges::throwingChangesNothing);
        doc.test("NONE = -1: There is none.", () -> {
            Checks.due("NONE", TaxEngine.NONE, -1);
            Checks.due("behind the end of a row", new TaxEngine().why(0, 1), -1);
        });
        doc.test("INPUT = 0, SUM = 1, REST = 2, SHARE = 3, LESSER = 4, GREATER = 5, TAX = 6, CARRY = 7, LIMIT = 8: Kinds of lines.", () -> {
            int[] kinds = {TaxEngine.INPUT, TaxEngine.SUM, TaxEngine.REST, TaxEngine.SHARE, TaxEngine.LESSER,
                TaxEngine.GREATER, TaxEngine.TAX, TaxEngine.CARRY, TaxEngine.LIMIT};
            TaxEngine x = new TaxEngine();
            for (int kind = 0; kind < 9; kind++) {
                Checks.due("constant", kinds[kind], kind);
                x.define(kind, kinds[kind], 15, 14);
                Checks.due("kindOf", x.kindOf(kind), kind);
            }
        });
    }

    /** Every method of the face, those that answer nothing or a boolean as a number. */
    private static List<ToIntFunction<TaxEngine>> everyCall() {
        List<ToIntFunction<TaxEngine>> calls = new ArrayList<>(questions());
        calls.addAll(List.of(x -> {
            x.define(3, TaxEngine.SUM, 0, 1);
            return 0;
        }, x -> {
            x.define(0, TaxEngine.SUM, 9, 9);
            return 0;
        }, x -> x.answer(0, 5), x -> x.bracket(7, 7), x -> x.dropBrackets(), x -> x.carry(9, 20), x -> x.closeYear(),
            x -> x.addCredit(1, 1), x -> x.dropCredit()));
        return calls;
    }

    private static List<ToIntFunction<TaxEngine>> questions() {
        return List.of(x -> x.kindOf(9), x -> x.value(9), x -> x.boundFor(9, 100), x -> x.dependsOn(9, 10) ? 1 : 0,
            x -> x.influence(1), x -> x.why(7, 3), x -> x.taxOn(700), x -> x.carried(), x -> x.carriedAt(1), x -> x.year(),
            x -> x.creditAt(1, 1), x -> x.afterCredits(0), x -> x.bestSum(1));
    }

    private static String answerOf(TaxEngine engine, ToIntFunction<TaxEngine> call) {
        try {
            return String.valueOf(call.applyAsInt(engine));
        } catch (RuntimeException e) {
            return e.getClass().getName();
        }
    }

    private static void eachCallAsThe512th() {
        List<ToIntFunction<TaxEngine>> questions = questions();
        int number = 0;
        for (ToIntFunction<TaxEngine> last : everyCall()) {
            TaxEngine x = Checks.made(Samples::everyKind);
            for (int call = Samples.CALLS_OF_EVERY_KIND + 1; call < LAST_CALL; call++) {
                questions.get(call % questions.size()).applyAsInt(x);
            }
            Checks.due("call " + number, answerOf(x, last), answerOf(Checks.made(Samples::everyKind), last));
            number++;
        }
    }

    private static void theSameQuestion512Times() {
        int number = 0;
        for (ToIntFunction<TaxEngine> question : questions()) {
            TaxEngine x = Checks.made(Samples::everyKind);
            int first = question.applyAsInt(x);
            for (int call = Samples.CALLS_OF_EVERY_KIND + 2; call < LAST_CALL; call++) {
                question.applyAsInt(x);
            }
            Checks.due("question " + number, question.applyAsInt(x), first);
            number++;
        }
    }

    private static void changesUpToThe512th() {
        Checks.due("511 years closed", afterCalls(511, (x, call) -> x.closeYear()).year(), 511);
        TaxEngine late = afterCalls(510, (x, call) -> x.closeYear());
        Checks.due("20 years after the 510th", late.carry(1, 530), 1);
        Checks.due("is carried", late.carriedAt(0), 1);
        Checks.due("511 answers", afterCalls(511, (x, call) -> x.answer(15, call)).answer(15, 0), 511);
        Checks.due("511 definitions", afterCalls(511, (x, call) -> x.define(3, call % 9, 0, 1)).kindOf(3), 511 % 9);
        Checks.due("511 refused definitions",
            afterCalls(511, (x, call) -> Checks.thrownBy(x, y -> y.define(3, TaxEngine.SUM, 3, 3))).kindOf(3), TaxEngine.INPUT);
        Checks.due("511 rates", afterCalls(511, (x, call) -> x.bracket(0, call)).taxOn(1000), 511);
        Checks.due("brackets added and dropped", afterCalls(511, (x, call) -> {
            if (call % 6 == 0) {
                x.dropBrackets();
            } else {
                x.bracket(call, 1);
            }
        }).dropBrackets(), 1);
        Checks.due("credits added and dropped", afterCalls(511, (x, call) -> {
            if (call % 2 == 0) {
                x.dropCredit();
            } else {
                x.addCredit(call, 0);
            }
        }).dropCredit(), 0);
        Checks.due("amounts carried and dropped", afterCalls(511, (x, call) -> {
            if (call % 9 == 0) {
                x.closeYear();
            } else {
                x.carry(call, x.year());
            }
        }).carriedAt(0), 505);
    }

    private static TaxEngine afterCalls(int calls, Checks.NumberCall each) {
        TaxEngine engine = new TaxEngine();
        for (int call = 1; call <= calls; call++) {
            each.on(engine, call);
        }
        return engine;
    }

    private static void questionsChangeNothing() {
        List<Checks.Call> calls = List.of(x -> x.kindOf(0), x -> x.value(0), x -> x.value(9), x -> x.boundFor(0, 0),
            x -> x.boundFor(9, 1000000000), x -> x.dependsOn(0, 0), x -> x.influence(15), x -> x.influence(1), x -> x.why(0, 15),
            x -> x.why(9, 0), x -> x.taxOn(1000000000), x -> x.carried(), x -> x.carriedAt(0), x -> x.year(),
            x -> x.creditAt(15, 1), x -> x.afterCredits(15), x -> x.bestSum(15));
        for (int number = 0; number < calls.size(); number++) {
            Checks.unchanged("question " + number, Samples::everyKind, calls.get(number));
            Checks.unchanged("question " + number + " when full", Samples::full, calls.get(number));
        }
    }

    /** IndexOutOfBounds comes before IllegalArgument, and that before IllegalState, wherever a method names both. */
    private static void firstNamedFirst() {
        Checks.noLine("define: line, kind", Samples::full, x -> x.define(16, 9, 0, 0));
        Checks.noLine("define: line, share", Samples::full, x -> x.define(-1, TaxEngine.SHARE, 0, 1001));
        Checks.noLine("define: first, share", Samples::full, x -> x.define(0, TaxEngine.SHARE, 16, 1001));
        Checks.noLine("define: first, circle", Samples::full, x -> x.define(0, TaxEngine.SUM, -1, 0));
        Checks.noLine("define: second, circle", Samples::full, x -> x.define(0, TaxEngine.SUM, 0, 16));
        Checks.badArgument("define: share, circle", Samples::full, x -> x.define(0, TaxEngine.SHARE, 0, 1001));
        Checks.noLine("answer: line, value", Samples::full, x -> x.answer(16, 1000001));
        Checks.noLine("boundFor: line, value", Samples::full, x -> x.boundFor(16, -1));
        Checks.badArgument("boundFor: value, no limit", Samples::full, x -> x.boundFor(1, -1));
        Checks.badArgument("boundFor: value, no limit", Samples::full, x -> x.boundFor(15, 1000000001));
        Checks.badArgument("bracket: threshold, full", Samples::full, x -> x.bracket(-1, 0));
        Checks.badArgument("bracket: rate, full", Samples::full, x -> x.bracket(1, 1001));
        Checks.badArgument("carry: amount, full", Samples::full, x -> x.carry(0, 1));
        Checks.badArgument("carry: last, full", Samples::full, x -> x.carry(1, 0));
        Checks.badArgument("addCredit: amount, full", Samples::full, x -> x.addCredit(0, 0));
        Checks.badArgument("addCredit: worth, full", Samples::full, x -> x.addCredit(1, 1001));
    }

    /** Each exception of each method that changes something; what the questions throw stands with their promises. */
    private static void throwingChangesNothing() {
        List<Checks.Call> calls = List.of(x -> x.define(16, 0, 0, 0), x -> x.define(1, TaxEngine.SUM, 16, 0),
            x -> x.define(1, TaxEngine.SUM, 0, 16), x -> x.define(1, 9, 0, 0), x -> x.define(1, TaxEngine.SHARE, 0, 1001),
            x -> x.define(1, TaxEngine.SHARE, 1, 0), x -> x.define(15, TaxEngine.SUM, 0, 7), x -> x.define(15, TaxEngine.REST, 15, 14),
            x -> x.answer(16, 1), x -> x.answer(1, 1000001), x -> x.bracket(1000001, 1), x -> x.bracket(1, 1001),
            x -> x.carry(1000001, 2), x -> x.carry(1, 22), x -> x.addCredit(1000001, 1), x -> x.addCredit(1, 1001));
        List<Checks.Call> callsWhenFull = List.of(x -> x.bracket(1, 1), x -> x.carry(1, 1), x -> x.addCredit(1, 1));
        for (int number = 0; number < calls.size(); number++) {
            throwsAndChangesNothing("call " + number, Samples::full, calls.get(number));
        }
        for (int number = 0; number < callsWhenFull.size(); number++) {
            throwsAndChangesNothing("call when full " + number, Samples::full, callsWhenFull.get(number));
        }
        throwsAndChangesNothing("none to drop", x -> x.answer(0, 3), TaxEngine::dropCredit);
    }

    private static void throwsAndChangesNothing(String what, Checks.Call recipe, Checks.Call call) {
        Checks.due(what + " throws nothing", Checks.thrownBy(Checks.made(recipe), call).equals("nothing"), false);
        Checks.unchanged(what, recipe, call);
    }
}
