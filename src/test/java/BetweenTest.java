/** Promise 9: between, with its edge: "-2 when there is none such"; the order's own bounds are OrderTest's. */
public final class BetweenTest {
    public static void main(String[] args) {
        firstIsOfListZero();
        missingOnes();
        eachPair();
        noSuchValueOfListZero();
        noSuchValueOfListOne();
        listsWithoutValues();
        listThatBecameShorter();
        longestLists();
        sortedLists();
        changesNothing();
        Check.end();
    }

    private static void firstIsOfListZero() {
        ValueOrder x = new ValueOrder();
        Check.readDoc(x, 0, Check.doc("a", 1));
        Check.readDoc(x, 1, Check.doc("a", 2L));
        Check.takePath(x, "a");
        x.list(0, 0, false);
        x.list(1, 1, false);
        Check.due("less", x.between(0, 0), -1);
        x.list(0, 1, false);
        Check.due("the same", x.between(0, 0), 0);
        x.list(1, 0, false);
        Check.due("more", x.between(0, 0), 1);
    }

    private static void missingOnes() {
        ValueOrder x = new ValueOrder();
        Check.readDoc(x, 0, Check.doc("a", null));
        Check.takePath(x, "a");
        x.list(0, 3, false);
        x.list(1, 0, false);
        Check.due("MISSING and NOTHING", x.between(0, 0), -1);
        x.list(1, 2, false);
        Check.due("MISSING and MISSING", x.between(0, 0), 0);
        x.list(0, 0, false);
        Check.due("NOTHING and MISSING", x.between(0, 0), 1);
    }

    /** List 0: a row, 5, 3, 7; list 1: a row, 4, 5. */
    private static ValueOrder fourAndThree() {
        ValueOrder x = new ValueOrder();
        Check.readDoc(x, 0, Check.doc("a", Check.row(5, 3, 7)));
        Check.readDoc(x, 1, Check.doc("a", Check.row(4, 5)));
        Check.takePath(x, "a");
        Check.due("list 0", x.list(0, 0, true), 4);
        Check.due("list 1", x.list(1, 1, true), 3);
        return x;
    }

    private static void eachPair() {
        ValueOrder x = fourAndThree();
        int[][] want = {{1, 1, 1}, {-1, 1, 0}, {-1, -1, -1}, {-1, 1, 1}};
        for (int k = 0; k < 4; k++) {
            for (int j = 0; j < 3; j++) {
                Check.due("between(" + k + ", " + j + ")", x.between(k, j), want[k][j]);
            }
        }
    }

    /** k 0 to 3 are there. */
    private static void noSuchValueOfListZero() {
        ValueOrder x = fourAndThree();
        for (int k : new int[] {-1, -2, 4, 5, 499, 500, 501, Integer.MAX_VALUE, Integer.MIN_VALUE}) {
            for (int j = -1; j < 4; j++) {
                Check.due("between(" + k + ", " + j + ")", x.between(k, j), -2);
            }
        }
        Check.due("between(3, 0)", x.between(3, 0), -1);
    }

    /** j 0 to 2 are there: 3 is not, though list 0 has one. */
    private static void noSuchValueOfListOne() {
        ValueOrder x = fourAndThree();
        for (int j : new int[] {-1, -2, 3, 4, 499, 500, 501, Integer.MAX_VALUE, Integer.MIN_VALUE}) {
            for (int k = -1; k < 5; k++) {
                Check.due("between(" + k + ", " + j + ")", x.between(k, j), -2);
            }
        }
        Check.due("between(3, 2)", x.between(3, 2), 1);
    }

    private static void listsWithoutValues() {
        ValueOrder x = new ValueOrder();
        Check.due("both are empty", x.between(0, 0), -2);
        Check.takePath(x, "a");
        x.list(0, 0, false);
        Check.due("list 1 is empty", x.between(0, 0), -2);
        ValueOrder y = new ValueOrder();
        Check.takePath(y, "a");
        y.list(1, 0, false);
        Check.due("list 0 is empty", y.between(0, 0), -2);
        y.list(0, 0, false);
        Check.due("none is empty", y.between(0, 0), 0);
    }

    private static void listThatBecameShorter() {
        ValueOrder x = fourAndThree();
        Check.due("between(3, 2)", x.between(3, 2), 1);
        x.list(0, 0, false);
        Check.due("between(1, 2)", x.between(1, 2), -2);
        Check.due("between(0, 2)", x.between(0, 2), 1);
        x.list(1, 1, false);
        Check.due("between(0, 1)", x.between(0, 1), -2);
        Check.due("between(0, 0)", x.between(0, 0), 1);
    }

    private static void longestLists() {
        ValueOrder x = new ValueOrder();
        Check.readDoc(x, 0, Many.withTail(247, 1, 7));
        Check.readDoc(x, 1, Many.withTail(247, 0, 8));
        Check.takePath(x, Many.PATH);
        Check.due("list 0", x.list(0, 0, true), 500);
        Check.due("list 1", x.list(1, 1, true), 499);
        Check.due("between(499, 498)", x.between(499, 498), -1);
        Check.due("between(498, 498)", x.between(498, 498), -1);
        Check.due("between(499, 499)", x.between(499, 499), -2);
        Check.due("between(500, 498)", x.between(500, 498), -2);
    }

    private static void sortedLists() {
        ValueOrder x = fourAndThree();
        x.sort(0);
        Check.due("3 and the row", x.between(0, 0), -1);
        Check.due("3 and 4", x.between(0, 1), -1);
        x.sort(1);
        Check.due("3 and 4", x.between(0, 0), -1);
        Check.due("5 and 5", x.between(1, 1), 0);
        Check.due("7 and 5", x.between(2, 1), 1);
        Check.due("rows", x.between(3, 2), 1);
        Check.due("behind the last", x.between(4, 2), -2);
    }

    private static void changesNothing() {
        State.stays("between(0, 0)", State::busy, x -> x.between(0, 0));
        State.stays("between(1, 2)", State::busy, x -> x.between(1, 2));
        State.stays("between(-1, 0)", State::busy, x -> x.between(-1, 0));
        State.stays("between(0, 9)", State::busy, x -> x.between(0, 9));
    }
}
