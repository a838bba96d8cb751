import java.util.ArrayList;
import java.util.List;
import java.util.function.Supplier;

/** What a call saves. */
final class Undoing {
    private Undoing() {
    }

    /** The call saves one state, the one from before it, ahead of those that were saved; of five the oldest goes. */
    static void once(Checks check, String what, Supplier<CaveRelay> made, Checks.CallOn call) {
        saved(check, what, 1, made, call);
        saved(check, what + " (four states are saved)", 1, () -> Checks.withFourSaved(made.get()), call);
    }

    /** The call saves nothing, loses none of the states that are saved, and changes nothing but the text. */
    static void never(Checks check, String what, Supplier<CaveRelay> made, Checks.CallOn call) {
        saved(check, what, 0, made, call);
        saved(check, what + " (four states are saved)", 0, () -> Checks.withFourSaved(made.get()), call);
    }

    private static void saved(Checks check, String what, int more, Supplier<CaveRelay> made, Checks.CallOn call) {
        CaveRelay x = made.get();
        call.answer(x);
        List<Long> got = states(x);
        List<Long> due = states(made.get());
        List<Long> dueSaved = due.subList(1 - more, Math.min(due.size(), 5 - more));
        check.hold(what + " saves " + more + " state", got.subList(1, got.size()).equals(dueSaved));
        check.hold(what + " changes the state", more > 0 || got.get(0).equals(due.get(0)));
    }

    /** The digests of the state as it is and of the saved ones, the latest ahead, each without the number of these. */
    private static List<Long> states(CaveRelay x) {
        x.clearText();
        List<Long> digests = new ArrayList<>();
        digests.add(x.digest());
        try {
            for (int i = 0; i < 9; i++) {
                x.undo();
                digests.add(x.digest());
            }
        } catch (IllegalStateException e) {
            // no more of them
        }
        for (int i = 0; i < digests.size(); i++) {
            digests.set(i, digests.get(i) - (digests.size() - 1 - i));
        }
        return digests;
    }
}
