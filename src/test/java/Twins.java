import java.util.ArrayList;
import java.util.List;
import java.util.function.Consumer;
import java.util.function.ToLongFunction;

/** Two objects with the same past, of which one gets a call more: what can be seen of them then is compared. */
final class Twins {
    private final Check check;
    private final Consumer<EscapeLights> past;

    Twins(Check check, Consumer<EscapeLights> past) {
        this.check = check;
        this.past = past;
    }

    /** The call has this answer, and leaves everything as it was. */
    void unchanged(String call, long want, ToLongFunction<EscapeLights> use) {
        EscapeLights x = made();
        check.due(call, use.applyAsLong(x), want);
        check.holds(call + " leaves everything as it was", everything(x).equals(everything(made())));
    }

    /** The call has this answer, and records just the state that was there before it. */
    void recorded(String call, long want, ToLongFunction<EscapeLights> use) {
        EscapeLights x = made();
        EscapeLights y = made();
        int states = x.told(13);
        check.due(call, use.applyAsLong(x), want);
        check.due(call + ": the remembered states", x.told(13), Math.min(states + 1, 8));
        check.due(call + ": undo()", x.undo(), Math.min(states, 7));
        // where there are 8 states, the other one has to lose its oldest one too
        y.setNeed(99);
        y.undo();
        check.holds(call + ": undo() leads back", everything(x).equals(everything(y)));
    }

    private EscapeLights made() {
        EscapeLights x = new EscapeLights();
        past.accept(x);
        return x;
    }

    /** The present state, all remembered ones, and what the text says. */
    private static List<Long> everything(EscapeLights x) {
        List<Long> seen = new ArrayList<>();
        seen.add(x.digest());
        for (int k = 0; k < 9; k++) {
            seen.add((long) x.undo());
            seen.add(x.digest());
        }
        seen.add((long) x.load());
        seen.add(x.digest());
        return seen;
    }
}
