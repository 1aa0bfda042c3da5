/** Promise 1: a new object, as each of the other calls shows it. */
public final class NewObjectTest {
    public static void main(String[] args) {
        slotsAreWithoutElements();
        eachSlotIsTheDocumentWithoutElements();
        pathMeetsNothingInSlots();
        listsAreWithoutValues();
        thereIsNoPath();
        readShowsNothingOnTheTape();
        pathShowsNothingOnTheTape();
        feedShowsNothingOnTheTape();
        objectsAreApart();
        Check.end();
    }

    private static void slotsAreWithoutElements() {
        ValueOrder x = new ValueOrder();
        for (int r = 0; r < 4; r++) {
            for (int s = 0; s < 4; s++) {
                Check.due("compare of new slots", x.compare(r, s), 0);
            }
        }
        Check.due("there is no slot 4", x.compare(0, 4), -2);
        Check.due("there is no slot -1", x.compare(-1, 0), -2);
    }

    /** The same as the one without elements, and less than the least one with an element. */
    private static void eachSlotIsTheDocumentWithoutElements() {
        for (int slot = 0; slot < 4; slot++) {
            for (int other = 0; other < 4; other++) {
                if (slot != other) {
                    ValueOrder x = new ValueOrder();
                    Check.due("read", Check.readDoc(x, other, Check.doc()), 0);
                    Check.due("compare with none", x.compare(slot, other), 0);
                    Check.due("read", Check.readDoc(x, other, Check.doc("", null)), 1);
                    Check.due("compare with one", x.compare(slot, other), -1);
                }
            }
        }
    }

    private static void pathMeetsNothingInSlots() {
        ValueOrder x = new ValueOrder();
        Check.takePath(x, "a");
        for (int slot = 0; slot < 4; slot++) {
            Check.due("list of a new slot", x.list(1, slot, true), 1);
            Check.due("its leaf is MISSING", x.value(1, 0, 0), 0);
            Check.due("MISSING is in both", x.meet(slot, 3 - slot, false), true);
        }
    }

    private static void listsAreWithoutValues() {
        ValueOrder x = new ValueOrder();
        for (int which = 0; which < 2; which++) {
            for (int what = 0; what < 4; what++) {
                Check.due("value of a new list", x.value(which, 0, what), -1);
            }
            Check.due("text of a new list", x.text(which, 0, 0), -1);
            Check.due("from of a new list", x.from(which, 0), -1);
            Check.due("sort of a new list", x.sort(which), 0);
            Check.due("value of a sorted new list", x.value(which, 0, 0), -1);
        }
        Check.due("between new lists", x.between(0, 0), -2);
    }

    /** One list alone is made, so that the other's being empty is what is shown. */
    private static void oneListStaysWithoutValues(int made) {
        ValueOrder x = new ValueOrder();
        Check.takePath(x, "a");
        Check.due("list", x.list(made, 0, false), 1);
        Check.due("value of the one", x.value(made, 0, 0), 0);
        Check.due("value of the other", x.value(1 - made, 0, 0), -1);
        Check.due("between", x.between(0, 0), -2);
    }

    private static void thereIsNoPath() {
        for (int which = 0; which < 2; which++) {
            oneListStaysWithoutValues(which);
            for (int slot = 0; slot < 4; slot++) {
                ValueOrder x = new ValueOrder();
                Check.due("list without a path", x.list(which, slot, false), -2);
                Check.due("list without a path", x.list(which, slot, true), -2);
                Check.due("meet without a path", x.meet(slot, which, false), false);
                Check.due("meet without a path", x.meet(slot, which, true), false);
                Check.takePath(x, "a");
                Check.due("list with a path", x.list(which, slot, false), 1);
                Check.due("meet with a path", x.meet(slot, which, false), true);
            }
        }
    }

    private static void readShowsNothingOnTheTape() {
        ValueOrder x = new ValueOrder();
        Check.due("read(0, 1)", x.read(0, 1), -2);
        Check.due("read(0, 5)", x.read(0, 5), -2);
        Check.due("read(0, 2000)", x.read(0, 2000), -2);
        Check.due("read(0, -1)", x.read(0, -1), -2);
        Check.due("read(0, 0): no bytes are no document", x.read(0, 0), -1);
    }

    private static void pathShowsNothingOnTheTape() {
        ValueOrder x = new ValueOrder();
        Check.due("path(1)", x.path(1), -2);
        Check.due("path(2000)", x.path(2000), -2);
        Check.due("path(-1)", x.path(-1), -2);
        Check.due("path(0): no bytes are no path", x.path(0), -1);
        Check.due("there is no path then", x.list(0, 0, false), -2);
    }

    private static void feedShowsNothingOnTheTape() {
        Check.due("feed", new ValueOrder().feed(0, 0, 0, 0, 0), 20);
        ValueOrder x = new ValueOrder();
        Check.due("feed", x.feed(0x0C000000, 0x10610007, 0, 0, 0), 20);
        Check.due("what was fed lies first", x.read(0, 12), 1);
    }

    private static void objectsAreApart() {
        ValueOrder x = State.busy();
        ValueOrder y = new ValueOrder();
        Check.due("the other's slots", x.compare(0, 1), 1);
        Check.due("the other's list", x.value(0, 0, 0), 10);
        Check.due("compare", y.compare(0, 1), 0);
        Check.due("list", y.list(0, 0, false), -2);
        Check.due("meet", y.meet(1, 1, false), false);
        Check.due("value", y.value(0, 0, 0), -1);
        Check.due("sort", y.sort(1), 0);
        Check.due("feed", y.feed(0, 0, 0, 0, 0), 20);
    }
}
