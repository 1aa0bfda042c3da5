import java.util.List;

/** Promise 11: from, with its edge: "-1 when there is none". */
public final class FromTest {
    public static void main(String[] args) {
        listThatWasNotSorted();
        listThatWasSorted();
        listThatWasSortedTwice();
        listThatWasMadeAnew();
        listsAreApart();
        noSuchList();
        noSuchValue();
        withoutValues();
        longestList();
        changesNothing();
        Check.end();
    }

    private static ValueOrder listed(int which, Object... items) {
        ValueOrder x = new ValueOrder();
        Check.due("read", Check.readDoc(x, 0, Check.doc("r", Check.row(items))), 1);
        Check.takePath(x, "r");
        Check.due("list", x.list(which, 0, true), items.length + 1);
        return x;
    }

    private static void order(String what, ValueOrder x, int which, int... want) {
        Check.due(what + ": before the first", x.from(which, -1), -1);
        for (int k = 0; k < want.length; k++) {
            Check.due(what + ": from(" + which + ", " + k + ")", x.from(which, k), want[k]);
        }
        Check.due(what + ": behind the last", x.from(which, want.length), -1);
    }

    private static void listThatWasNotSorted() {
        for (int which = 0; which < 2; which++) {
            order("not sorted", listed(which, 9, 8, 7), which, 0, 1, 2, 3);
            order("of one", listed(which), which, 0);
        }
    }

    private static void listThatWasSorted() {
        for (int which = 0; which < 2; which++) {
            ValueOrder x = listed(which, 9, 7, 8);
            x.sort(which);
            order("sorted", x, which, 2, 3, 1, 0);
            Check.due("the least", x.value(which, 0, 2), 7);
            ValueOrder y = listed(which, 7, 8, 9);
            y.sort(which);
            order("the row behind its items", y, which, 1, 2, 3, 0);
        }
    }

    /** It tells of the making, not of the last sorting. */
    private static void listThatWasSortedTwice() {
        ValueOrder x = listed(1, "c", "a", "b", "a");
        for (int time = 0; time < 3; time++) {
            Check.due("sort", x.sort(1), 4);
            order("sorted", x, 1, 2, 4, 3, 1, 0);
        }
    }

    private static void listThatWasMadeAnew() {
        ValueOrder x = listed(0, 3, 2, 1);
        x.sort(0);
        order("sorted", x, 0, 3, 2, 1, 0);
        x.list(0, 0, true);
        order("made anew", x, 0, 0, 1, 2, 3);
        x.sort(0);
        x.list(0, 0, false);
        order("made anew, shorter", x, 0, 0);
        x.sort(0);
        order("sorted anew", x, 0, 0);
    }

    private static void listsAreApart() {
        ValueOrder x = listed(0, 3, 2, 1);
        x.list(1, 0, true);
        x.sort(1);
        order("the one", x, 0, 0, 1, 2, 3);
        order("the other", x, 1, 3, 2, 1, 0);
        x.meet(0, 0, true);
        x.list(0, 1, true);
        order("the one, made anew", x, 0, 0);
        order("the other stays", x, 1, 3, 2, 1, 0);
    }

    private static void noSuchList() {
        ValueOrder x = listed(0, 2, 1);
        x.list(1, 0, true);
        for (int which : new int[] {-1, -2, 2, 3, Integer.MAX_VALUE, Integer.MIN_VALUE}) {
            for (int k = -1; k < 4; k++) {
                Check.due("from(" + which + ", " + k + ")", x.from(which, k), -1);
            }
        }
        order("list 0", x, 0, 0, 1, 2);
        order("list 1", x, 1, 0, 1, 2);
    }

    private static void noSuchValue() {
        for (int which = 0; which < 2; which++) {
            ValueOrder x = listed(which, 2, 1);
            for (int k : new int[] {-1, -2, 3, 4, 499, 500, 501, Integer.MAX_VALUE, Integer.MIN_VALUE}) {
                Check.due("from(" + which + ", " + k + ")", x.from(which, k), -1);
            }
            x.sort(which);
            for (int k : new int[] {-1, -2, 3, 4, 499, 500, 501, Integer.MAX_VALUE, Integer.MIN_VALUE}) {
                Check.due("from(" + which + ", " + k + ") when it is sorted", x.from(which, k), -1);
            }
            Check.due("of the other list", x.from(1 - which, 0), -1);
        }
    }

    private static void withoutValues() {
        ValueOrder x = listed(0, 2, 1);
        x.sort(0);
        Check.takePath(x, "r.2");
        Check.due("no leaf", x.list(0, 0, true), 0);
        order("no leaf", x, 0);
        Check.readDoc(x, 1, Many.withItems(249, 0));
        Check.takePath(x, Many.PATH);
        Check.due("too many", x.list(0, 1, true), -1);
        order("too many", x, 0);
        order("a new list", x, 1);
    }

    /** 498 others ahead of two that are less than these. */
    private static void longestList() {
        ValueOrder x = new ValueOrder();
        Check.readDoc(x, 0, Many.withItems(247, 2));
        Check.takePath(x, Many.PATH);
        Check.due("list", x.list(0, 0, true), 500);
        for (int k = 0; k < 150; k++) {
            Check.due("not sorted", x.from(0, 3 * k + 50), 3 * k + 50);
        }
        Check.due("the last", x.from(0, 499), 499);
        Check.due("behind it", x.from(0, 500), -1);
        x.sort(0);
        Check.due("sorted", x.from(0, 0), 498);
        Check.due("sorted", x.from(0, 1), 499);
        Check.due("sorted, the last", x.from(0, 499), 249);
        Check.due("behind it", x.from(0, 500), -1);
        Check.due("sorted, the last but one", x.from(0, 498), 1);
        Check.due("sorted, the document", x.from(0, 497), 0);
    }

    private static void changesNothing() {
        for (int k : List.of(-1, 0, 1, 6, 7)) {
            State.stays("from(0, " + k + ")", State::busy, x -> x.from(0, k));
            State.stays("from(1, " + k + ")", State::busy, x -> x.from(1, k));
            State.stays("from(2, " + k + ")", State::busy, x -> x.from(2, k));
        }
    }
}
