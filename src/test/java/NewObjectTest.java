/** Promise 1: a new object. */
public final class NewObjectTest {
    public static void main(String[] args) {
        slotsAreWithoutElements();
        listsAreWithoutValues();
        thereIsNoPath();
        tapeIsEmpty();
        objectsAreApart();
        Check.end();
    }

    private static void slotsAreWithoutElements() {
        ValueOrder x = new ValueOrder();
        for (int r = 0; r < 4; r++) {
            for (int s = 0; s < 4; s++) {
                Check.due("compare of new slots", x.compare(r, s), 0);
            }
        }
        Check.readDoc(x, 0, Check.doc());
        for (int s = 1; s < 4; s++) {
            Check.due("compare with the document without elements", x.compare(0, s), 0);
        }
        Check.takePath(x, "a");
        Check.due("list of a new slot", x.list(0, 3, true), 1);
        Check.due("its leaf", x.value(0, 0, 0), 0);
    }

    private static void listsAreWithoutValues() {
        ValueOrder x = new ValueOrder();
        for (int which = 0; which < 2; which++) {
            Check.due("sort of a new list", x.sort(which), 0);
            Check.due("value of a new list", x.value(which, 0, 0), -1);
            Check.due("text of a new list", x.text(which, 0, 0), -1);
            Check.due("from of a new list", x.from(which, 0), -1);
        }
        Check.due("between new lists", x.between(0, 0), -2);
    }

    private static void thereIsNoPath() {
        ValueOrder x = new ValueOrder();
        Check.due("list without a path", x.list(0, 0, false), -2);
        Check.due("list without a path", x.list(1, 3, true), -2);
        Check.due("meet without a path", x.meet(0, 0, true), false);
    }

    private static void tapeIsEmpty() {
        ValueOrder x = new ValueOrder();
        Check.due("read(0, 1)", x.read(0, 1), -2);
        Check.due("path(1)", x.path(1), -2);
        Check.due("feed", x.feed(0, 0, 0, 0, 0), 20);
    }

    private static void objectsAreApart() {
        ValueOrder x = new ValueOrder();
        Check.readDoc(x, 0, Check.doc("a", 1));
        Check.takePath(x, "a");
        x.list(0, 0, false);
        x.feed(1, 2, 3, 4, 5);
        ValueOrder y = new ValueOrder();
        Check.due("compare", y.compare(0, 1), 0);
        Check.due("list", y.list(0, 0, false), -2);
        Check.due("value", y.value(0, 0, 0), -1);
        Check.due("feed", y.feed(0, 0, 0, 0, 0), 20);
    }
}
