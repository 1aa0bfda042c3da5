import java.util.List;

/** Promise 6: list, with its bounds; which leaves there are is LeavesTest's. */
public final class ListTest {
    public static void main(String[] args) {
        listsAndSlots();
        upToFiveHundred();
        fiveHundredOneByALeaf();
        fiveHundredOneByAnItem();
        withoutValuesThen();
        otherListStays();
        noLeafAtAll();
        noSuchListDoesNothing();
        noSuchSlotDoesNothing();
        noPathDoesNothing();
        keepsItsValuesWhenASlotIsReadAnew();
        keepsItsOrderWhenASlotIsReadAnew();
        keepsItsValuesThroughManyReads();
        keepsItsValuesOtherwise();
        Check.end();
    }

    private static void listsAndSlots() {
        ValueOrder x = new ValueOrder();
        for (int slot = 0; slot < 4; slot++) {
            Check.readDoc(x, slot, Check.doc("a", 10 + slot));
        }
        Check.takePath(x, "a");
        for (int which = 0; which < 2; which++) {
            for (int slot = 0; slot < 4; slot++) {
                Check.due("list(" + which + ", " + slot + ", ..)", x.list(which, slot, slot > 1), 1);
                Check.due("its value", x.value(which, 0, 2), 10 + slot);
                Check.due("and no more", x.value(which, 1, 2), -1);
            }
        }
    }

    private static void count(Check.Doc doc, String path, boolean items, int want) {
        ValueOrder x = new ValueOrder();
        Check.due("read", Check.readDoc(x, 2, doc), 1);
        Check.takePath(x, path);
        for (int which = 0; which < 2; which++) {
            Check.due("list of " + want, x.list(which, 2, items), want);
            Check.due("the first", x.from(which, 0), 0);
            Check.due("the last", x.from(which, want - 1), want - 1);
            Check.due("the last's kind", x.value(which, want - 1, 0) >= 0, true);
            Check.due("behind the last", x.from(which, want), -1);
            Check.due("behind the last", x.value(which, want, 0), -1);
        }
    }

    private static void tooMany(Check.Doc doc, String path, boolean items) {
        ValueOrder x = new ValueOrder();
        Check.due("read", Check.readDoc(x, 2, doc), 1);
        Check.takePath(x, path);
        for (int which = 0; which < 2; which++) {
            Check.due("list of more than 500", x.list(which, 2, items), -1);
            Check.due("no value", x.value(which, 0, 0), -1);
            Check.due("no last value", x.value(which, 499, 0), -1);
            Check.due("none to sort", x.sort(which), 0);
        }
    }

    /** 498, 499 and 500 values, with items and without. */
    private static void upToFiveHundred() {
        for (int more = 0; more <= 2; more++) {
            count(Many.withItems(247, more), Many.PATH, true, 498 + more);
            count(Many.withoutItems(123, 2 + more), Many.LONGER_PATH, false, 498 + more);
        }
        count(Many.withItems(248, 0), Many.PATH, true, 500);
        count(Many.withoutItems(124, 0), Many.LONGER_PATH, false, 500);
        count(Many.withItems(249, 0), Many.PATH, false, 4);
        for (int tail = 13; tail <= 15; tail++) {
            count(Many.withTail(240, 0, nothings(tail)), Many.PATH, true, 485 + tail);
        }
    }

    private static void fiveHundredOneByALeaf() {
        tooMany(Many.withItems(247, 3), Many.PATH, true);
        tooMany(Many.withItems(248, 1), Many.PATH, true);
        tooMany(Many.withItems(248, 2), Many.PATH, true);
        tooMany(Many.withoutItems(123, 5), Many.LONGER_PATH, false);
        tooMany(Many.withoutItems(124, 1), Many.LONGER_PATH, false);
        tooMany(Many.withoutItems(124, 1), Many.LONGER_PATH, true);
        tooMany(Many.withoutItems(125, 0), Many.LONGER_PATH, false);
        tooMany(Many.withoutItems(160, 0), Many.LONGER_PATH, false);
    }

    private static List<Object> nothings(int count) {
        List<Object> made = Check.row();
        for (int i = 0; i < count; i++) {
            made.add(null);
        }
        return made;
    }

    /** The last row's own last item is one too many, or the first item of it, or the row itself. */
    private static void fiveHundredOneByAnItem() {
        tooMany(Many.withTail(240, 0, nothings(16)), Many.PATH, true);
        tooMany(Many.withTail(240, 0, nothings(17)), Many.PATH, true);
        tooMany(Many.withTail(247, 1, nothings(1)), Many.PATH, true);
        count(Many.withTail(247, 0, nothings(1)), Many.PATH, true, 500);
        count(Many.withTail(247, 1, nothings(0)), Many.PATH, true, 500);
        tooMany(Many.withTail(248, 0, nothings(1)), Many.PATH, true);
        tooMany(Many.withTail(248, 0, nothings(0)), Many.PATH, true);
    }

    /** "-1 when there would be more than 500 (the list is without values then)". */
    private static void withoutValuesThen() {
        for (int which = 0; which < 2; which++) {
            ValueOrder x = new ValueOrder();
            Check.readDoc(x, 0, Many.only(Check.row(3, "t", 1)));
            Check.readDoc(x, 1, Many.withItems(248, 1));
            Check.takePath(x, Many.PATH);
            Check.due("few", x.list(which, 0, true), 4);
            Check.due("too many", x.list(which, 1, true), -1);
            for (int k = 0; k < 5; k++) {
                Check.due("value", x.value(which, k, 0), -1);
                Check.due("text", x.text(which, k, 0), -1);
                Check.due("from", x.from(which, k), -1);
            }
            Check.due("sort", x.sort(which), 0);
            Check.due("again too many", x.list(which, 1, true), -1);
            Check.due("few again", x.list(which, 0, true), 4);
            Check.due("their values", x.value(which, 1, 2), 3);
            Check.due("between, the other being empty", x.between(0, 0), -2);
        }
    }

    private static void otherListStays() {
        for (int which = 0; which < 2; which++) {
            ValueOrder x = new ValueOrder();
            Check.readDoc(x, 0, Many.only(Check.row(3, 1)));
            Check.readDoc(x, 1, Many.withItems(248, 1));
            Check.takePath(x, Many.PATH);
            x.list(1 - which, 0, true);
            x.sort(1 - which);
            Check.due("too many", x.list(which, 1, true), -1);
            Check.due("the other's value", x.value(1 - which, 0, 2), 1);
            Check.due("the other's from", x.from(1 - which, 0), 2);
            Check.due("few", x.list(which, 0, false), 1);
            Check.due("the other's value", x.value(1 - which, 1, 2), 3);
            Check.due("the other's last", x.from(1 - which, 2), 0);
        }
    }

    /** A list that had values has none then. */
    private static void noLeafAtAll() {
        for (int which = 0; which < 2; which++) {
            ValueOrder x = new ValueOrder();
            Check.readDoc(x, 0, Check.doc("a", Check.row(1, 2)));
            Check.takePath(x, "a");
            Check.due("three", x.list(which, 0, true), 3);
            Check.takePath(x, "a.b");
            Check.due("no leaf", x.list(which, 0, true), 0);
            Check.due("value", x.value(which, 0, 0), -1);
            Check.due("from", x.from(which, 0), -1);
            Check.due("sort", x.sort(which), 0);
            Check.takePath(x, "a.2");
            Check.due("no leaf", x.list(which, 0, false), 0);
            Check.takePath(x, "a.1");
            Check.due("one leaf", x.list(which, 0, false), 1);
            Check.due("its number", x.value(which, 0, 2), 2);
        }
    }

    private static void noSuchListDoesNothing() {
        for (int which : new int[] {-1, -2, 2, 3, 4, Integer.MAX_VALUE, Integer.MIN_VALUE}) {
            for (int slot : new int[] {0, 3, 4, -1}) {
                Check.due("no list " + which, State.busy().list(which, slot, true), -2);
                State.stays("no list " + which, State::busy, x -> x.list(which, slot, false));
            }
        }
    }

    private static void noSuchSlotDoesNothing() {
        for (int slot : new int[] {-1, -2, 4, 5, Integer.MAX_VALUE, Integer.MIN_VALUE}) {
            for (int which = 0; which < 2; which++) {
                int list = which;
                Check.due("no slot " + slot, State.busy().list(which, slot, true), -2);
                State.stays("no slot " + slot, State::busy, x -> x.list(list, slot, true));
                State.stays("no slot " + slot, State::busy, x -> x.list(list, slot, false));
            }
        }
    }

    private static void noPathDoesNothing() {
        for (int which = 0; which < 2; which++) {
            int list = which;
            for (int slot = 0; slot < 4; slot++) {
                int of = slot;
                Check.due("no path", State.busyWithoutPath().list(which, slot, true), -2);
                State.stays("no path", State::busyWithoutPath, x -> x.list(list, of, true));
            }
        }
    }

    /** "A list keeps its values when a slot is read anew", and all that hangs on them. */
    private static void keepsItsValuesWhenASlotIsReadAnew() {
        ValueOrder x = new ValueOrder();
        Check.readDoc(x, 0, Check.doc("a", Check.row("old", 1, Check.doc("x", 2), Check.row(7, 8), true, null)));
        Check.takePath(x, "a");
        x.list(0, 0, true);
        x.list(1, 0, true);
        Check.readDoc(x, 0, Check.doc("a", Check.row("newer", 2, Check.doc("x", 3, "y", 4), Check.row(), false, 5, 6)));
        long[][] four = {{4, 5, 0, 6}, {2, 3, 0, 3}, {16, 2, 1, 0}, {3, 4, 0, 1}, {4, 5, 0, 2}, {8, 6, 1, 0}, {10, 1, 0, 0}};
        for (int k = 0; k < four.length; k++) {
            for (int what = 0; what < 4; what++) {
                Check.due("value " + k, x.value(0, k, what), four[k][what]);
            }
            Check.due("the same in both lists", x.between(k, k), 0);
        }
        Check.due("text", x.text(0, 1, 0), 'o');
        Check.due("text", x.text(0, 1, 2), 'd');
        Check.due("no byte more", x.text(0, 1, 3), -1);
        Check.due("no value more", x.value(0, 7, 0), -1);
        Check.due("new values", x.list(0, 0, true), 8);
        for (int k = 0; k < 4; k++) {
            Check.due("new against old " + k, x.between(k, k), k < 2 ? -1 : 1);
        }
        Check.due("new row against old", x.between(4, 4), -1);
        Check.due("new truth against old", x.between(5, 5), -1);
    }

    private static void keepsItsOrderWhenASlotIsReadAnew() {
        ValueOrder x = new ValueOrder();
        Check.readDoc(x, 2, Check.doc("a", Check.row(3, 1, 2)));
        Check.takePath(x, "a");
        x.list(1, 2, true);
        x.sort(1);
        for (int time = 0; time < 5; time++) {
            Check.readDoc(x, 2, Check.doc("a", Check.row(time, 9, 9, 9, 9)));
            Check.due("wrong bytes", Check.readBytes(x, 2, Check.bytes(5, 0, 0, 0, 1)), -1);
            for (int k = 0; k < 3; k++) {
                Check.due("number", x.value(1, k, 2), k + 1);
                Check.due("from", x.from(1, k), k == 0 ? 2 : k == 1 ? 3 : 1);
            }
            Check.due("row", x.value(1, 3, 3), 3);
            Check.due("sort", x.sort(1), 4);
        }
    }

    /** As many small documents as an object can read in its 512 calls, and as many long ones. */
    private static void keepsItsValuesThroughManyReads() {
        ValueOrder x = new ValueOrder();
        Check.readDoc(x, 0, Check.doc("a", Check.row("old", 1, Check.doc("x", 2))));
        Check.takePath(x, "a");
        x.list(0, 0, true);
        for (int time = 0; time < 160; time++) {
            Check.due("read", Check.readDoc(x, time % 4, Check.doc("a", Check.row(time, "new"))), 1);
        }
        oldOnes(x);
        ValueOrder y = new ValueOrder();
        Check.readDoc(y, 3, Check.doc("a", Check.row("old", 1, Check.doc("x", 2))));
        Check.takePath(y, "a");
        y.list(0, 3, true);
        for (int time = 0; time < 4; time++) {
            Check.due("read", Check.readDoc(y, 3 - time, Check.doc("a", nothings(419))), 1);
        }
        Check.due("list", y.list(1, 0, true), 420);
        Check.due("compare", y.compare(0, 3), 0);
        oldOnes(y);
    }

    private static void oldOnes(ValueOrder x) {
        Check.due("row", x.value(0, 0, 3), 3);
        Check.due("text", x.text(0, 1, 0), 'o');
        Check.due("number", x.value(0, 2, 2), 1);
        Check.due("document", x.value(0, 3, 3), 1);
        Check.due("sort", x.sort(0), 4);
        Check.due("from", x.from(0, 0), 2);
    }

    /** Neither a path nor a meeting of slots nor the other list changes it. */
    private static void keepsItsValuesOtherwise() {
        ValueOrder x = new ValueOrder();
        Check.readDoc(x, 0, Check.doc("a", Check.row(3, 1), "b", 5));
        Check.takePath(x, "a");
        x.list(0, 0, true);
        Check.takePath(x, "b");
        x.meet(0, 0, true);
        x.list(1, 0, true);
        x.sort(1);
        Check.due("row", x.value(0, 0, 3), 2);
        Check.due("first item", x.value(0, 1, 2), 3);
        Check.due("second item", x.value(0, 2, 2), 1);
        Check.due("no more", x.value(0, 3, 2), -1);
    }
}
