import java.util.List;

/** Promise 12: meet, with its edges: "False when there are no such slots, no path, or more than 500 of either". */
public final class MeetTest {
    public static void main(String[] args) {
        sameLeaves();
        itemsOrNot();
        missingOnes();
        withoutLeaves();
        oneSlotTwice();
        eachPairOfSlots();
        moreThanFiveHundred();
        moreThanFiveHundredLeaves();
        noSuchSlots();
        noPath();
        changesNothing();
        listsStay();
        oneAmongMany();
        Check.end();
    }

    private static void due(Object left, Object right, String path, boolean items, boolean want) {
        ValueOrder x = new ValueOrder();
        Check.readDoc(x, 1, Check.doc("a", left));
        Check.readDoc(x, 3, Check.doc("a", right));
        Check.takePath(x, path);
        Check.due("meet at " + path, x.meet(1, 3, items), want);
        Check.due("meet back at " + path, x.meet(3, 1, items), want);
    }

    private static void sameLeaves() {
        due(1, 1, "a", false, true);
        due(1, 1L, "a", false, true);
        due(1, 2, "a", false, false);
        due(1, true, "a", false, false);
        due("x", "x", "a", false, true);
        due("x", "xx", "a", false, false);
        due(null, null, "a", false, true);
        due(null, false, "a", false, false);
        due(Check.doc("b", 1), Check.doc("b", 1L), "a", false, true);
        due(Check.doc("b", 1), Check.doc("c", 1), "a", false, false);
        due(Check.row(Check.doc("b", 1), Check.doc("b", 2)), Check.row(Check.doc("b", 3), Check.doc("b", 2)), "a.b",
                false, true);
        due(Check.row(Check.doc("b", 1), Check.doc("b", 2)), Check.row(Check.doc("b", 3), Check.doc("b", 4)), "a.b",
                true, false);
    }

    private static void itemsOrNot() {
        due(Check.row(1, 2), 2, "a", true, true);
        due(Check.row(1, 2), 2, "a", false, false);
        due(Check.row(1, 2), Check.row(2, 1), "a", false, false);
        due(Check.row(1, 2), Check.row(2, 3), "a", true, true);
        due(Check.row(1, 2), Check.row(3, 4), "a", true, false);
        due(Check.row(Check.row(5)), Check.row(5), "a", true, true);
        due(Check.row(Check.row(5)), 5, "a", true, false);
        due(Check.row(), Check.row(), "a", false, true);
    }

    private static void missingOnes() {
        due(1, 2, "b", false, true);
        due(1, null, "a", false, false);
        due(Check.row(Check.doc("b", 1), Check.doc()), Check.doc("c", 2), "a.b", false, true);
        due(Check.doc("b", null), Check.doc(), "a.b", false, false);
    }

    private static void withoutLeaves() {
        due(Check.row(), Check.row(), "a.b", true, false);
        due(Check.row(1, 2), 7, "a.b", true, false);
        due(Check.row(1, 2), Check.row(1, 2), "a.2", true, false);
        due(Check.row(1, 2), Check.row(3, 2), "a.1", false, true);
    }

    private static void oneSlotTwice() {
        ValueOrder x = new ValueOrder();
        Check.readDoc(x, 0, Check.doc("a", 1, "r", Check.row()));
        Check.takePath(x, "a");
        Check.due("meet(0, 0)", x.meet(0, 0, false), true);
        Check.due("meet(1, 2) of documents without elements", x.meet(1, 2, false), true);
        Check.takePath(x, "r.a");
        Check.due("meet(0, 0) without leaves", x.meet(0, 0, false), false);
    }

    private static void meets(String what, Check.Doc left, Check.Doc right, boolean items, boolean want) {
        ValueOrder x = new ValueOrder();
        Check.due("read", Check.readDoc(x, 0, left), 1);
        Check.due("read", Check.readDoc(x, 3, right), 1);
        Check.takePath(x, Many.PATH);
        Check.due(what, x.meet(0, 3, items), want);
        Check.due(what + " back", x.meet(3, 0, items), want);
        Check.due(what + " again", x.meet(0, 3, items), want);
    }

    /** "False when .. more than 500 of either": 499, 500 and 501, the last alone being in both. */
    private static void moreThanFiveHundred() {
        meets("499 of the one", Many.withTail(247, 0, 7), Many.only(7), true, true);
        meets("500 of the one", Many.withTail(247, 1, 7), Many.only(7), true, true);
        meets("501 of the one", Many.withTail(247, 2, 7), Many.only(7), true, false);
        meets("501 of the one", Many.withTail(248, 0, 7), Many.only(7), true, false);
        meets("few of the one without items", Many.withTail(248, 0, 7), Many.only(7), false, true);
        meets("500 of the one, another of the other", Many.withTail(247, 1, 7), Many.only(8), true, false);
        meets("500 of both", Many.withTail(247, 1, 7), Many.withTail(247, 1, 7L), true, true);
        meets("500 and 501", Many.withTail(247, 1, 7), Many.withTail(247, 2, 7L), true, false);
        meets("501 of both", Many.withTail(247, 2, 7), Many.withTail(247, 2, 7), true, false);
        meets("500 by an item", Many.withTail(247, 0, Check.row(7)), Many.only(7), true, true);
        meets("501 by an item", Many.withTail(247, 0, Check.row(8, 7)), Many.only(7), true, false);
        meets("501 by an item, the same being the first", Many.withTail(247, 0, Check.row(7, 8)), Many.only(7), true, false);
        meets("500, the same being among the first", Many.withItems(248, 0), Many.only(null), true, true);
        meets("501, the same being among the first", Many.withItems(248, 1), Many.only(null), true, false);
    }

    private static void moreThanFiveHundredLeaves() {
        ValueOrder x = new ValueOrder();
        Check.readDoc(x, 1, Many.withoutItems(124, 0));
        Check.readDoc(x, 2, Many.withoutItems(124, 1));
        Check.takePath(x, Many.LONGER_PATH);
        Check.due("500 of both", x.meet(1, 1, false), true);
        Check.due("500 and one MISSING", x.meet(1, 0, false), true);
        Check.due("501 and one MISSING", x.meet(2, 0, false), false);
        Check.due("one MISSING and 501", x.meet(0, 2, false), false);
        Check.due("501 of the second", x.meet(1, 2, false), false);
        Check.due("501 of the first", x.meet(2, 1, false), false);
        Check.due("501 of both", x.meet(2, 2, false), false);
        Check.due("500 of both, behind others", x.meet(1, 1, false), true);
    }

    /** "False when there are no such slots": one of them is enough. */
    private static void noSuchSlots() {
        ValueOrder x = new ValueOrder();
        Check.takePath(x, "a");
        for (int slot = 0; slot < 4; slot++) {
            Check.due("slots that are there", x.meet(slot, 3 - slot, false), true);
            for (int none : new int[] {-1, -2, 4, 5, Integer.MAX_VALUE, Integer.MIN_VALUE}) {
                Check.due("no slot " + none, x.meet(none, slot, false), false);
                Check.due("no slot " + none, x.meet(slot, none, true), false);
                Check.due("no slot " + none, x.meet(none, none, true), false);
                Check.due("no slots", x.meet(none, 4, false), false);
                Check.due("no slots", x.meet(-1, none, false), false);
            }
        }
    }

    /** "False when .. no path", though there are documents with the same values. */
    private static void noPath() {
        ValueOrder x = new ValueOrder();
        Check.readDoc(x, 0, Check.doc("a", 1));
        Check.readDoc(x, 1, Check.doc("a", 1));
        for (int slot = 0; slot < 4; slot++) {
            Check.due("no path", x.meet(slot, 0, false), false);
            Check.due("no path", x.meet(slot, slot, true), false);
        }
        Check.due("still no path", Check.takePath(x, "a."), -1);
        Check.due("still no path", x.meet(0, 1, true), false);
        Check.due("a path", Check.takePath(x, "a"), 1);
        Check.due("a path", x.meet(0, 1, true), true);
    }

    private static void changesNothing() {
        for (boolean items : new boolean[] {false, true}) {
            State.stays("meet(0, 1, ..)", State::busy, x -> x.meet(0, 1, items));
            State.stays("meet(0, 3, ..)", State::busy, x -> x.meet(0, 3, items));
            State.stays("meet(3, 3, ..)", State::busy, x -> x.meet(3, 3, items));
            State.stays("meet(4, 0, ..)", State::busy, x -> x.meet(4, 0, items));
            State.stays("meet(0, -1, ..)", State::busy, x -> x.meet(0, -1, items));
            State.stays("meet without a path", State::busyWithoutPath, x -> x.meet(0, 3, items));
        }
    }

    private static void eachPairOfSlots() {
        ValueOrder x = new ValueOrder();
        int[] numbers = {1, 2, 1, 3};
        for (int slot = 0; slot < 4; slot++) {
            Check.readDoc(x, slot, Check.doc("a", numbers[slot]));
        }
        Check.takePath(x, "a");
        for (int r = 0; r < 4; r++) {
            for (int s = 0; s < 4; s++) {
                Check.due("meet(" + r + ", " + s + ", ..)", x.meet(r, s, false), numbers[r] == numbers[s]);
            }
        }
    }

    private static void listsStay() {
        ValueOrder x = new ValueOrder();
        Check.readDoc(x, 0, Check.doc("a", Check.row(3, 1)));
        Check.readDoc(x, 1, Check.doc("a", Check.row(2, 1, 0)));
        Check.takePath(x, "a");
        x.list(0, 0, true);
        x.list(1, 1, true);
        Check.due("meet", x.meet(1, 0, true), true);
        Check.due("value", x.value(0, 1, 2), 3);
        Check.due("from", x.from(0, 1), 1);
        Check.due("value", x.value(1, 1, 2), 2);
        Check.due("behind the last", x.value(0, 3, 0), -1);
    }

    private static void oneAmongMany() {
        for (int at = 0; at < 30; at++) {
            List<Object> left = Check.row();
            List<Object> right = Check.row();
            for (int i = 0; i < 30; i++) {
                left.add(2 * ((i * 7) % 30));
                right.add((long) (2 * ((i * 11) % 30) + (i == at ? 0 : 1)));
            }
            due(left, right, "a", true, true);
            right.set(at, 1001);
            due(left, right, "a", true, false);
        }
    }
}
