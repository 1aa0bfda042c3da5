import java.util.List;

/** Promises 10 and 11: sort and from. */
public final class SortTest {
    public static void main(String[] args) {
        leastFirst();
        sameOnesKeepTheirOrder();
        sortedAgain();
        eachLength();
        differentOnes();
        longestList();
        fromWithoutSort();
        noSuchLists();
        Check.end();
    }

    private static ValueOrder listed(int which, List<Object> items) {
        ValueOrder x = new ValueOrder();
        Check.due("read", Check.readDoc(x, 0, Check.doc("r", items)), 1);
        Check.takePath(x, "r");
        x.list(which, 0, true);
        return x;
    }

    private static void order(String what, ValueOrder x, int which, int... want) {
        for (int k = 0; k < want.length; k++) {
            Check.due(what + ": from(" + which + ", " + k + ")", x.from(which, k), want[k]);
        }
        Check.due(what + ": from behind the last", x.from(which, want.length), -1);
    }

    private static void leastFirst() {
        for (int which = 0; which < 2; which++) {
            ValueOrder x = listed(which, Check.row(true, Check.row(), Check.doc(), "t", 5, null));
            Check.due("sort", x.sort(which), 7);
            // The row of all these begins with true, so it is more than the row without items.
            order("classes", x, which, 6, 5, 4, 3, 2, 0, 1);
        }
    }

    private static void sameOnesKeepTheirOrder() {
        ValueOrder x = listed(1, Check.row(2, 1L, 2L, 1, 2, 0, 1L));
        Check.due("sort", x.sort(1), 4);
        order("numbers", x, 1, 6, 2, 4, 7, 1, 3, 5, 0);
        int[] kinds = {16, 18, 16, 18, 16, 18, 16, 4};
        for (int k = 0; k < kinds.length; k++) {
            Check.due("kind " + k, x.value(1, k, 0), kinds[k]);
        }
        Check.due("the other list", x.sort(0), 0);
    }

    private static void sortedAgain() {
        ValueOrder x = listed(0, Check.row(3, 1, 2, 1));
        Check.due("sort", x.sort(0), 4);
        order("sorted", x, 0, 2, 4, 3, 1, 0);
        Check.due("sort again", x.sort(0), 4);
        order("sorted again", x, 0, 2, 4, 3, 1, 0);
        Check.due("list again", x.list(0, 0, true), 5);
        order("made again", x, 0, 0, 1, 2, 3, 4);
    }

    private static void eachLength() {
        for (int length = 0; length < 40; length++) {
            List<Object> items = Check.row();
            for (int i = 0; i < length; i++) {
                items.add(length - i);
            }
            ValueOrder x = listed(0, items);
            Check.due("sort", x.sort(0), length + 1);
            for (int k = 0; k < length; k++) {
                Check.due("from", x.from(0, k), length - k);
                Check.due("number", x.value(0, k, 2), k + 1);
            }
            Check.due("the row", x.from(0, length), 0);
        }
    }

    private static void differentOnes() {
        Check.due("all the same", listed(0, Check.row("a", "a", "a")).sort(0), 2);
        Check.due("documents", listed(0, Check.row(Check.doc("a", 1), Check.doc("a", 1L), Check.doc("b", 1))).sort(0), 3);
        Check.due("nothing", listed(0, Check.row(null, null, false, false, true)).sort(0), 4);
        Check.due("no items", listed(0, Check.row()).sort(0), 1);
        ValueOrder x = listed(0, Check.row(Check.doc("b", 1), Check.doc("b", 2), Check.doc("a", 1)));
        Check.takePath(x, "r.a");
        Check.due("list", x.list(0, 0, true), 3);
        Check.due("missing", x.sort(0), 2);
        order("missing", x, 0, 0, 1, 2);
    }

    /** 500 values: a row of 248 items, met twice, among them. */
    private static ValueOrder longest() {
        ValueOrder x = new ValueOrder();
        List<Object> items = Check.row();
        for (int i = 0; i < 248; i++) {
            items.add(i % 3 == 0 ? null : i % 3 == 1);
        }
        Check.readDoc(x, 0, Check.doc("0", Check.row(Check.doc("0", Check.row(Check.doc("0", items))))));
        Check.takePath(x, "0.0.0.0");
        Check.due("list", x.list(0, 0, true), 500);
        Check.due("different ones", x.sort(0), 5);
        return x;
    }

    private static void longestList() {
        ValueOrder x = longest();
        Check.due("the least", x.value(0, 0, 0), 10);
        Check.due("the last", x.value(0, 499, 2), 1);
        for (int k = 1; k < 500; k++) {
            // An object answers 512 calls alone.
            if (k % 30 == 0) {
                x = longest();
            }
            boolean same = x.value(0, k - 1, 1) == x.value(0, k, 1) && x.value(0, k - 1, 2) == x.value(0, k, 2);
            boolean less = x.value(0, k - 1, 1) < x.value(0, k, 1) || x.value(0, k - 1, 2) < x.value(0, k, 2);
            Check.due("order at " + k, same ? x.from(0, k - 1) < x.from(0, k) : less, true);
        }
    }

    private static void fromWithoutSort() {
        ValueOrder x = listed(1, Check.row(9, 8, 7));
        order("not sorted", x, 1, 0, 1, 2, 3);
    }

    private static void noSuchLists() {
        ValueOrder x = listed(0, Check.row(2, 1));
        for (int which : new int[] {-1, 2, 3, Integer.MAX_VALUE, Integer.MIN_VALUE}) {
            Check.due("sort of no list", x.sort(which), -1);
            Check.due("from of no list", x.from(which, 0), -1);
        }
        for (int k : new int[] {-1, 3, 500, Integer.MAX_VALUE, Integer.MIN_VALUE}) {
            Check.due("from of no value", x.from(0, k), -1);
        }
        order("as it was", x, 0, 0, 1, 2);
    }
}
