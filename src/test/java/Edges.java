import java.util.function.Supplier;
import java.util.function.ToLongFunction;

/** Checks of single calls, each on an object made for it, with a look at what the call left behind. */
final class Edges {
    /** A call with one of its numbers left open. */
    interface Open {
        long on(GasNominations x, int number);
    }

    private final Check check;
    private Supplier<GasNominations> start = GasNominations::new;

    Edges(Check check) {
        this.check = check;
    }

    /** The checks that follow make their objects so. */
    void start(Supplier<GasNominations> start) {
        this.start = start;
    }

    void due(String what, long got, long want) {
        check.due(what, got, want);
    }

    /** The call answers so, and all is as it was: a refusal, or a question. */
    void still(String what, ToLongFunction<GasNominations> call, long want) {
        GasNominations x = start.get();
        check.due(what, call.applyAsLong(x), want);
        check.isTrue(what + ": all is as it was", Look.all(x).equals(Look.all(start.get())));
    }

    /** The call answers so, and something has changed: an act that is taken. */
    void acts(String what, ToLongFunction<GasNominations> call, long want) {
        GasNominations x = start.get();
        GasNominations before = start.get();
        check.due(what, call.applyAsLong(x), want);
        check.isTrue(what + ": something has changed", !Look.all(x).equals(Look.all(before)));
    }

    /** The call is refused so for each of these numbers, and all is as it was. */
    void refuses(String what, Open call, long refusal, int... numbers) {
        for (int number : numbers) {
            still(what + " " + number, x -> call.on(x, number), refusal);
        }
    }

    /** The call is refused so for the first numbers outside these bounds, and for the farthest. */
    void refusesOutside(String what, int least, int most, Open call, long refusal) {
        refuses(what, call, refusal, least - 1, most + 1, Integer.MIN_VALUE, Integer.MAX_VALUE);
    }

    /** An act is taken from the least to the most, with this answer, and refused outside. */
    void bounds(String what, int least, int most, Open call, long answer, long refusal) {
        acts(what + " " + least, x -> call.on(x, least), answer);
        acts(what + " " + most, x -> call.on(x, most), answer);
        refusesOutside(what, least, most, call, refusal);
    }
}
