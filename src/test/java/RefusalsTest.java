import java.util.ArrayList;
import java.util.List;
import java.util.function.Supplier;
import java.util.function.ToLongFunction;

/**
 * "Of several refusals the first one here ..; they change nothing": every refused call, in every kind
 * of state, beside a twin that did not have it; and calls that only look, which change nothing either.
 */
public final class RefusalsTest extends Asking {
    private record Call(String name, ToLongFunction<SquareSums> made, long answer) { }

    private record State(String name, Supplier<SquareSums> made, boolean proved, int squares) { }

    private static final int[] WIDE = {-1, 12, Integer.MAX_VALUE, Integer.MIN_VALUE};

    private static final List<Call> CALLS = new ArrayList<>();

    private static void add(String name, ToLongFunction<SquareSums> made, long answer) {
        CALLS.add(new Call(name, made, answer));
    }

    private static SquareSums twoForms(int n) {
        SquareSums x = of(n, 1, 1, 4, 0, 1, 4, 0, 0, 1);
        make(x, 1, 1, 4, 0, 1, 4);
        return x;
    }

    private static SquareSums afterPlant() {
        SquareSums x = twoForms(2);
        x.prove(0);
        x.plant(0, 22, 7);
        return x;
    }

    private static SquareSums afterEqual() {
        SquareSums x = twoForms(3);
        x.prove(0);
        x.equal();
        return x;
    }

    private static SquareSums afterZero() {
        SquareSums x = twoForms(4);
        x.prove(1);
        return x;
    }

    private static SquareSums afterTwo() {
        SquareSums x = of(2, 1, 1, 524288, 1, 2, 1, 0, 2, 524288);
        x.prove(0);
        return x;
    }

    private static SquareSums afterUnder() {
        SquareSums x = of(1, 1, 1, 1, 0, 0, -1);
        make(x, 0, 1, 1, 0, 0, -1);
        x.under(0, 1, 20);
        return x;
    }

    private static SquareSums afterUnderThatIsZero() {
        SquareSums x = of(2, 0, 1, 1, 0, 0, -1);
        make(x, 0, 1, 1);
        x.under(0, 1, 20);
        return x;
    }

    private static SquareSums full() {
        SquareSums x = of(4, 1, 1, 2, 4, 4, 3);
        for (int f = 1; f < 12; f++) {
            x.form();
            x.term(f, 1, 4, f);
        }
        x.prove(0);
        return x;
    }

    private static List<State> states() {
        return List.of(
            new State("a new object", SquareSums::new, false, 0),
            new State("no proof", () -> twoForms(2), false, 0),
            new State("after plant()", RefusalsTest::afterPlant, true, 1),
            new State("after equal()", RefusalsTest::afterEqual, true, 1),
            new State("after 0", RefusalsTest::afterZero, false, 0),
            new State("after 2", RefusalsTest::afterTwo, false, 0),
            new State("after under()", RefusalsTest::afterUnder, true, 1),
            new State("after under() that is 0", RefusalsTest::afterUnderThatIsZero, false, 0),
            new State("full", RefusalsTest::full, true, 2));
    }

    /** What is refused in every state. */
    private static void callsWithBadNumbers() {
        for (int n : new int[] {0, 5, -1, Integer.MAX_VALUE, Integer.MIN_VALUE}) {
            add("variables(" + n + ")", x -> x.variables(n), BAD);
        }
        for (int bad : WIDE) {
            add("term(" + bad + ", 0, 0, 5)", x -> x.term(bad, 0, 0, 5), BAD_TERM);
            add("term(0, " + bad + ", 0, 5)", x -> x.term(0, bad, 0, 5), BAD_TERM);
            add("term(0, 0, " + bad + ", 5)", x -> x.term(0, 0, bad, 5), BAD_TERM);
            add("value(" + bad + ", 0, 0, 0, 0)", x -> x.value(bad, 0, 0, 0, 0), -1);
            add("plain(" + bad + ")", x -> x.plain(bad), BAD);
            add("prove(" + bad + ")", x -> x.prove(bad), BAD);
            add("under(" + bad + ", 0, 1)", x -> x.under(bad, 0, 1), BAD);
            add("under(0, " + bad + ", 1)", x -> x.under(0, bad, 1), BAD);
            add("told(" + bad + ")", x -> x.told(bad), BAD);
            add("weight(" + bad + ", 0)", x -> x.weight(bad, 0), 0);
            add("weight(0, " + bad + ")", x -> x.weight(0, bad), 0);
            add("line(" + bad + ", 0, 0)", x -> x.line(bad, 0, 0), 0);
            add("line(0, " + bad + ", 0)", x -> x.line(0, bad, 0), 0);
            add("line(0, 0, " + bad + ")", x -> x.line(0, 0, bad), 0);
            add("point(" + bad + ", 0)", x -> x.point(bad, 0), 0);
            add("point(1, " + bad + ")", x -> x.point(1, bad), 0);
            add("near(" + bad + ")", x -> x.near(bad), 0);
            add("plant(" + bad + ", 1, 1)", x -> x.plant(bad, 1, 1), BAD);
            add("count(" + bad + ")", x -> x.count(bad), BAD);
        }
        add("term(0, 1, 1, 1000001)", x -> x.term(0, 1, 1, 1000001), BAD_TERM);
        add("term(0, 1, 1, -1000001)", x -> x.term(0, 1, 1, -1000001), BAD_TERM);
        add("value(0, 1001, 0, 0, 0)", x -> x.value(0, 1001, 0, 0, 0), -1);
        add("under(0, 1, 0)", x -> x.under(0, 1, 0), BAD);
        add("under(0, 1, 21)", x -> x.under(0, 1, 21), BAD);
        add("told(7)", x -> x.told(7), BAD);
        add("plant(0, 1, 0)", x -> x.plant(0, 1, 0), BAD);
        add("count(3)", x -> x.count(3), BAD);
        add("pivot(1, 0)", x -> x.pivot(1, 0), LONG);
    }

    private static void dueRefused(State state, String name, ToLongFunction<SquareSums> call, long answer) {
        SquareSums x = state.made().get();
        due(name + ", " + state.name(), call.applyAsLong(x), answer);
        dueAlike(name + ", " + state.name(), x, state.made().get());
    }

    /** What is refused in some states alone. */
    private static void dueByState(State state) {
        if (!state.proved()) {
            dueRefused(state, "check()", x -> x.check(), STATE);
            dueRefused(state, "equal()", x -> x.equal(), STATE);
        }
        if (state.made().get().count(2) == 0) {
            dueRefused(state, "told(0)", x -> x.told(0), STATE);
        }
        if (state.made().get().count(1) == 12) {
            dueRefused(state, "form()", x -> x.form(), FULL);
        }
        int beside = state.squares();
        dueRefused(state, "plant() beside the SQUARES", x -> x.plant(beside, 5, 1), BAD);
        dueRefused(state, "weight() beside the SQUARES", x -> x.weight(beside, 1), 0);
        for (int i = 0; i < state.squares(); i++) {
            int square = i;
            dueRefused(state, "plant() of the least", x -> x.plant(square, LEAST, 1), LONG);
            dueRefused(state, "plant() by the least", x -> x.plant(square, 1, LEAST), LONG);
        }
    }

    private static void refusals() {
        sentence("they change nothing");
        callsWithBadNumbers();
        for (State state : states()) {
            for (Call call : CALLS) {
                dueRefused(state, call.name(), call.made(), call.answer());
            }
            dueByState(state);
        }
    }

    private static void lookingChangesNothing() {
        sentence("calls that only look change nothing");
        for (State state : states()) {
            SquareSums x = state.made().get();
            x.value(0, 1, 2, 3, 4);
            x.plain(0);
            x.plain(1);
            x.weight(0, 0);
            x.line(0, 0, 0);
            x.point(1, 0);
            x.near(0);
            x.check();
            x.pivot(LEAST, -1);
            x.told(0);
            x.count(0);
            dueAlike("calls that look, " + state.name(), x, state.made().get());
        }
    }

    public static void main(String[] args) {
        refusals();
        lookingChangesNothing();
        end();
    }
}
