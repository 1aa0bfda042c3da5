import java.util.List;

/** Promise 10: sort, with its edges. */
public final class SortTest {
    public static void main(String[] args) {
        leastFirst();
        sameOnesKeepTheirOrder();
        sameOnesAtEachDistance();
        sortedAgain();
        eachLength();
        withoutValues();
        oneAndTwoValues();
        differentOnes();
        longestList();
        longestListOfTwo();
        longestListFromBehind();
        onlyThatList();
        restStays();
        noSuchListDoesNothing();
        Check.end();
    }

    private static ValueOrder listed(int which, List<Object> items) {
        ValueOrder x = new ValueOrder();
        Check.due("read", Check.readDoc(x, 0, Check.doc("r", items)), 1);
        Check.takePath(x, "r");
        x.list(which, 0, true);
        return x;
    }

    private static void order(String what, ValueOrder x, int which, int... want) {
        for (int k = 0; k < want.length; k++) {
            Check.due(what + ": from(" + which + ", " + k + ")", x.from(which, k), want[k]);
        }
        Check.due(what + ": from behind the last", x.from(which, want.length), -1);
    }

    private static void leastFirst() {
        for (int which = 0; which < 2; which++) {
            ValueOrder x = listed(which, Check.row(true, Check.row(), Check.doc(), "t", 5, null));
            Check.due("sort", x.sort(which), 7);
            // The row of all these begins with true, so it is more than the row without items.
            order("classes", x, which, 6, 5, 4, 3, 2, 0, 1);
        }
    }

    private static void sameOnesKeepTheirOrder() {
        ValueOrder x = listed(1, Check.row(2, 1L, 2L, 1, 2, 0, 1L));
        Check.due("sort", x.sort(1), 4);
        order("numbers", x, 1, 6, 2, 4, 7, 1, 3, 5, 0);
        int[] kinds = {16, 18, 16, 18, 16, 18, 16, 4};
        for (int k = 0; k < kinds.length; k++) {
            Check.due("kind " + k, x.value(1, k, 0), kinds[k]);
        }
    }

    /** Two that are the same, of other kinds, with lesser and greater ones before, between and behind them. */
    private static void sameOnesAtEachDistance() {
        for (int first = 0; first < 12; first++) {
            for (int second = first + 1; second < 12; second++) {
                List<Object> items = Check.row();
                for (int i = 0; i < 12; i++) {
                    items.add(i == first ? (Object) 50 : i == second ? (Object) 50L : (i * 7) % 12 * 10 + 1);
                }
                ValueOrder x = listed(0, items);
                Check.due("sort", x.sort(0), 12);
                int place = 0;
                while (place < 12 && x.from(0, place) != first + 1) {
                    place++;
                }
                Check.due("the first of both", x.value(0, place, 0), 16);
                Check.due("the second behind it", x.from(0, place + 1), second + 1);
                Check.due("the second's kind", x.value(0, place + 1, 0), 18);
            }
        }
    }

    private static void sortedAgain() {
        ValueOrder x = listed(0, Check.row(3, 1, 2, 1));
        Check.due("sort", x.sort(0), 4);
        order("sorted", x, 0, 2, 4, 3, 1, 0);
        Check.due("sort again", x.sort(0), 4);
        order("sorted again", x, 0, 2, 4, 3, 1, 0);
        Check.due("list again", x.list(0, 0, true), 5);
        order("made again", x, 0, 0, 1, 2, 3, 4);
        Check.due("sort again", x.sort(0), 4);
        order("sorted once more", x, 0, 2, 4, 3, 1, 0);
    }

    /** From behind, in order already, and in turns, at each length: those at 2, 4, 8, .. and beside them too. */
    private static void eachLength() {
        for (int length = 0; length < 70; length++) {
            List<Object> falling = Check.row();
            List<Object> rising = Check.row();
            List<Object> turning = Check.row();
            for (int i = 0; i < length; i++) {
                falling.add(length - i);
                rising.add(i + 1);
                turning.add((i * 37 + 11) % 71 % 5);
            }
            ValueOrder x = listed(0, falling);
            ValueOrder y = listed(1, rising);
            Check.due("sort", x.sort(0), length + 1);
            Check.due("sort", y.sort(1), length + 1);
            for (int k = 0; k < length; k++) {
                Check.due("from", x.from(0, k), length - k);
                Check.due("number", x.value(0, k, 2), k + 1);
                Check.due("from", y.from(1, k), k + 1);
            }
            Check.due("the row", x.from(0, length), 0);
            Check.due("behind it", x.from(0, length + 1), -1);
            inTurns(listed(0, turning), length);
        }
    }

    private static void inTurns(ValueOrder x, int length) {
        x.sort(0);
        boolean[] seen = new boolean[length + 1];
        for (int k = 0; k < length; k++) {
            boolean less = k == 0 || x.value(0, k - 1, 2) < x.value(0, k, 2);
            boolean same = k > 0 && x.value(0, k - 1, 2) == x.value(0, k, 2) && x.from(0, k - 1) < x.from(0, k);
            Check.due("order at " + k + " of " + length, less || same, true);
            int from = x.from(0, k);
            Check.due("each once", from > 0 && from <= length && !seen[from], true);
            seen[Math.max(0, from)] = true;
        }
    }

    /** A new list, one without a leaf, and one that would have had too many. */
    private static void withoutValues() {
        ValueOrder x = new ValueOrder();
        Check.due("sort of a new list", x.sort(0), 0);
        Check.due("sort of a new list", x.sort(1), 0);
        Check.readDoc(x, 0, Check.doc("0", Check.row(1, 2)));
        Check.readDoc(x, 1, Many.withItems(248, 1));
        Check.takePath(x, Many.PATH);
        Check.due("list", x.list(0, 0, true), 1);
        Check.due("sort of one", x.sort(0), 1);
        Check.due("too many", x.list(0, 1, true), -1);
        Check.due("sort of none", x.sort(0), 0);
        Check.takePath(x, "0.2");
        Check.due("no leaf", x.list(1, 0, true), 0);
        Check.due("sort of none", x.sort(1), 0);
        Check.due("and again", x.sort(1), 0);
        Check.due("no value", x.value(1, 0, 0), -1);
    }

    private static void two(Object first, Object second, int different, boolean turned) {
        ValueOrder x = new ValueOrder();
        Check.readDoc(x, 0, Check.doc("r", Check.row(Check.doc("v", first), Check.doc("v", second))));
        Check.takePath(x, "r.v");
        Check.due("list", x.list(0, 0, false), 2);
        Check.due("different ones of two", x.sort(0), different);
        order("two", x, 0, turned ? 1 : 0, turned ? 0 : 1);
    }

    private static void oneAndTwoValues() {
        Check.due("one", listed(0, Check.row()).sort(0), 1);
        two(1, 2, 2, false);
        two(2, 1, 2, true);
        two(1, 1, 1, false);
        two(1L, 1, 1, false);
        two(1, 1L, 1, false);
        two("a", "", 2, true);
        two(null, null, 1, false);
        two(true, false, 2, true);
    }

    private static void differentOnes() {
        Check.due("all the same", listed(0, Check.row("a", "a", "a")).sort(0), 2);
        Check.due("documents", listed(0, Check.row(Check.doc("a", 1), Check.doc("a", 1L), Check.doc("b", 1))).sort(0), 3);
        Check.due("nothing", listed(0, Check.row(null, null, false, false, true)).sort(0), 4);
        Check.due("far from one another", listed(0, Check.row(1, 2, 3, 1, 2, 3L, 1L, 2)).sort(0), 4);
        ValueOrder x = listed(0, Check.row(Check.doc("b", 1), Check.doc("b", 2), Check.doc("a", 1)));
        Check.takePath(x, "r.a");
        Check.due("list", x.list(0, 0, true), 3);
        Check.due("missing", x.sort(0), 2);
        order("missing", x, 0, 0, 1, 2);
    }

    /** 500 values: a row of 248 items, met twice, among them. */
    private static ValueOrder longest() {
        ValueOrder x = new ValueOrder();
        List<Object> items = Check.row();
        for (int i = 0; i < 248; i++) {
            items.add(i % 3 == 0 ? null : i % 3 == 1);
        }
        Check.readDoc(x, 0, Check.doc("0", Check.row(Check.doc("0", Check.row(Check.doc("0", items))))));
        Check.takePath(x, "0.0.0.0");
        Check.due("list", x.list(0, 0, true), 500);
        Check.due("different ones", x.sort(0), 5);
        return x;
    }

    private static void longestList() {
        ValueOrder x = longest();
        Check.due("the least", x.value(0, 0, 0), 10);
        Check.due("the last", x.value(0, 499, 2), 1);
        Check.due("behind the last", x.from(0, 500), -1);
        for (int k = 1; k < 500; k++) {
            // An object answers 512 calls alone.
            if (k % 30 == 0) {
                x = longest();
            }
            boolean same = x.value(0, k - 1, 1) == x.value(0, k, 1) && x.value(0, k - 1, 2) == x.value(0, k, 2);
            boolean less = x.value(0, k - 1, 1) < x.value(0, k, 1) || x.value(0, k - 1, 2) < x.value(0, k, 2);
            Check.due("order at " + k, same ? x.from(0, k - 1) < x.from(0, k) : less, true);
        }
    }

    private static void longestListOfTwo() {
        ValueOrder x = new ValueOrder();
        Check.readDoc(x, 0, Many.withoutItems(124, 0));
        Check.takePath(x, Many.LONGER_PATH);
        Check.due("list", x.list(1, 0, false), 500);
        Check.due("MISSING and documents", x.sort(1), 2);
    }

    /** The last two of 500 are the least: they come first, and the others in the order they had. */
    private static void longestListFromBehind() {
        ValueOrder x = new ValueOrder();
        Check.readDoc(x, 0, Many.withItems(247, 2));
        Check.takePath(x, Many.PATH);
        Check.due("list", x.list(1, 0, true), 500);
        Check.due("MISSING, NOTHING, a document and a row", x.sort(1), 4);
        Check.due("the first MISSING", x.from(1, 0), 498);
        Check.due("the second MISSING", x.from(1, 1), 499);
        Check.due("the first NOTHING", x.from(1, 2), 2);
        Check.due("the last row", x.from(1, 499), 249);
    }

    private static void onlyThatList() {
        ValueOrder x = listed(0, Check.row(2, 1));
        x.list(1, 0, true);
        Check.due("sort", x.sort(0), 3);
        order("sorted", x, 0, 2, 1, 0);
        order("not sorted", x, 1, 0, 1, 2);
        Check.due("number of the other", x.value(1, 1, 2), 2);
        Check.due("sort of the other", x.sort(1), 3);
        order("sorted", x, 1, 2, 1, 0);
        Check.due("the slot stays", x.list(0, 0, true), 3);
        Check.due("the row's first item", x.value(0, 1, 2), 2);
    }

    /** List 0 of a busy object is sorted already, and nothing else takes part in sorting. */
    private static void restStays() {
        State.stays("sort of a sorted list", State::busy, x -> x.sort(0));
    }

    /** "-1 when there is no such list". */
    private static void noSuchListDoesNothing() {
        for (int which : new int[] {-1, -2, 2, 3, 4, Integer.MAX_VALUE, Integer.MIN_VALUE}) {
            Check.due("sort(" + which + ")", State.busy().sort(which), -1);
            Check.due("sort(" + which + ") of a new object", new ValueOrder().sort(which), -1);
            State.stays("sort(" + which + ")", State::busy, x -> x.sort(which));
        }
    }
}
