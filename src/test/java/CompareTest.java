/** Promise 5: compare, with its slots; the order's own bounds are OrderTest's. */
public final class CompareTest {
    public static void main(String[] args) {
        twoSlots();
        eachPairOfSlots();
        noSuchSlots();
        changesNothing();
        followsWhatIsRead();
        Check.end();
    }

    private static void twoSlots() {
        ValueOrder x = new ValueOrder();
        Check.readDoc(x, 2, Check.doc("a", 1));
        Check.due("compare(2, 3)", x.compare(2, 3), 1);
        Check.due("compare(3, 2)", x.compare(3, 2), -1);
        Check.due("compare(2, 2)", x.compare(2, 2), 0);
    }

    private static void eachPairOfSlots() {
        ValueOrder x = new ValueOrder();
        int[] numbers = {30, 10, 20, 10};
        for (int slot = 0; slot < 4; slot++) {
            Check.readDoc(x, slot, Check.doc("a", numbers[slot]));
        }
        for (int r = 0; r < 4; r++) {
            for (int s = 0; s < 4; s++) {
                Check.due("compare(" + r + ", " + s + ")", x.compare(r, s), Integer.compare(numbers[r], numbers[s]));
            }
        }
    }

    /** "-2 when there are no such slots": one of them is enough. */
    private static void noSuchSlots() {
        ValueOrder x = State.busy();
        for (int none : new int[] {-1, -2, 4, 5, Integer.MAX_VALUE, Integer.MIN_VALUE}) {
            for (int slot = 0; slot < 4; slot++) {
                Check.due("compare(" + none + ", " + slot + ")", x.compare(none, slot), -2);
                Check.due("compare(" + slot + ", " + none + ")", x.compare(slot, none), -2);
            }
            Check.due("compare of none twice", x.compare(none, none), -2);
            Check.due("compare of none and -1", x.compare(none, -1), -2);
            Check.due("compare of 4 and none", x.compare(4, none), -2);
        }
    }

    private static void changesNothing() {
        State.stays("compare(0, 1)", State::busy, x -> x.compare(0, 1));
        State.stays("compare(1, 0)", State::busy, x -> x.compare(1, 0));
        State.stays("compare(4, 0)", State::busy, x -> x.compare(4, 0));
        State.stays("compare(0, -1)", State::busy, x -> x.compare(0, -1));
    }

    private static void followsWhatIsRead() {
        ValueOrder x = new ValueOrder();
        Check.readDoc(x, 0, Check.doc("a", 1));
        Check.readDoc(x, 3, Check.doc("a", 2));
        Check.due("less", x.compare(0, 3), -1);
        Check.readDoc(x, 0, Check.doc("a", 2L));
        Check.due("the same", x.compare(0, 3), 0);
        Check.readDoc(x, 0, Check.doc("a", 3));
        Check.due("more", x.compare(0, 3), 1);
    }
}
