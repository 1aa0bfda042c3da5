import java.util.ArrayList;
import java.util.List;
import java.util.function.Consumer;
import java.util.function.Supplier;

/** What the calls show of an object, for calls that must do nothing. */
final class State {
    /** A document that lies on the tape of a busy object. */
    private static final byte[] ON_TAPE = Check.encode(Check.doc("a", "tape", "b", 9));

    private final ValueOrder x;
    private final List<Long> answers = new ArrayList<>();

    private State(ValueOrder x) {
        this.x = x;
    }

    /** An object with something everywhere: slots, a path, one list sorted and one not, and the tape. */
    static ValueOrder busy() {
        ValueOrder x = withSlots();
        Check.takePath(x, "a");
        x.list(0, 0, true);
        x.sort(0);
        x.list(1, 3, true);
        Check.feedAll(x, ON_TAPE);
        return x;
    }

    static ValueOrder busyWithoutPath() {
        ValueOrder x = withSlots();
        Check.feedAll(x, ON_TAPE);
        return x;
    }

    private static ValueOrder withSlots() {
        ValueOrder x = new ValueOrder();
        Check.readDoc(x, 0, Check.doc("a", Check.row(3, "text", 1L, Check.doc("a", "u"), null)));
        Check.readDoc(x, 1, Check.doc("a", 2, "b", 3));
        Check.readDoc(x, 3, Check.doc("a", Check.row("t", 1, true)));
        return x;
    }

    /** How many bytes lie on the tape of a busy object. */
    static int onTape() {
        return (ON_TAPE.length + 19) / 20 * 20;
    }

    /** Holds an object that got that call against one that is made alike and did not get it. */
    static void stays(String what, Supplier<ValueOrder> made, Consumer<ValueOrder> call) {
        ValueOrder called = made.get();
        call.accept(called);
        List<Long> got = answersOf(called);
        List<Long> want = answersOf(made.get());
        for (int i = 0; i < want.size(); i++) {
            Check.due(what + " does nothing, answer " + i, got.get(i), want.get(i));
        }
    }

    /** What is asked last changes the object. */
    private static List<Long> answersOf(ValueOrder x) {
        State state = new State(x);
        state.askLists();
        state.askSlots();
        state.askPath();
        state.askTape();
        return state.answers;
    }

    private void askLists() {
        for (int which = 0; which < 2; which++) {
            for (int k = 0; k < 7; k++) {
                askValue(which, k);
                answers.add((long) x.text(which, k, 0));
                answers.add((long) x.from(which, k));
            }
        }
        for (int k = 0; k < 7; k++) {
            answers.add((long) x.between(k, 1));
            answers.add((long) x.between(1, k));
        }
    }

    private void askValue(int which, int k) {
        for (int what = 0; what < 4; what++) {
            answers.add(x.value(which, k, what));
        }
    }

    private void askSlots() {
        for (int r = 0; r < 4; r++) {
            for (int s = 0; s < 4; s++) {
                answers.add((long) x.compare(r, s));
                answers.add(x.meet(r, s, true) ? 1L : 0L);
            }
        }
    }

    private void askPath() {
        for (int slot = 0; slot < 4; slot++) {
            answers.add((long) x.list(0, slot, true));
            askValue(0, 0);
            askValue(0, 1);
        }
    }

    private void askTape() {
        answers.add((long) x.feed(1, 2, 3, 4, 5));
        answers.add((long) x.read(2, ON_TAPE.length));
        answers.add((long) Check.takePath(x, "a"));
        answers.add((long) x.list(1, 2, false));
        askValue(1, 0);
        for (int i = 0; i < 5; i++) {
            answers.add((long) x.text(1, 0, i));
        }
    }
}
