import java.util.List;

/** Promise 6: list, with the leaves of a path. */
public final class ListTest {
    // How leaves that are no numbers are shown.
    private static final long MISS = -1000;
    private static final long NULL = -1001;
    private static final long TEXT = -1002;
    private static final long DOC = -1003;
    private static final long ROW = -1004;

    public static void main(String[] args) {
        stepsInDocuments();
        stepsAtOtherValues();
        namesInRows();
        numbersInRows();
        wrongNumbersInRows();
        rowsInRows();
        metMoreThanOnce();
        withItems();
        mostValues();
        noSuchThings();
        listKeepsItsValues();
        deepest();
        longestStep();
        Check.end();
    }

    private static long shown(ValueOrder x, int which, int k) {
        switch ((int) x.value(which, k, 0)) {
            case 0:
                return MISS;
            case 2:
                return TEXT;
            case 3:
                return DOC;
            case 4:
                return ROW;
            case 10:
                return NULL;
            default:
                return x.value(which, k, 2);
        }
    }

    private static void leaves(Check.Doc doc, String path, boolean items, long... want) {
        ValueOrder x = new ValueOrder();
        String what = path + (items ? " with items" : "");
        Check.readDoc(x, 1, doc);
        Check.takePath(x, path);
        for (int which = 0; which < 2; which++) {
            Check.due("list of " + what, x.list(which, 1, items), want.length);
            for (int k = 0; k < want.length; k++) {
                Check.due("leaf " + k + " of " + what, shown(x, which, k), want[k]);
            }
            Check.due("value behind the last of " + what, x.value(which, want.length, 0), -1);
        }
    }

    private static void stepsInDocuments() {
        Check.Doc doc = Check.doc("a", Check.doc("b", Check.doc("c", 5), "", 6, "0", 7, "bb", 8), "b", 9, "a.b", 10);
        leaves(doc, "a", false, DOC);
        leaves(doc, "a", true, DOC);
        leaves(doc, "a.b", false, DOC);
        leaves(doc, "a.b.c", false, 5);
        leaves(doc, "a.0", false, 7);
        leaves(doc, "a.bb", false, 8);
        leaves(doc, "b", false, 9);
        leaves(doc, "c", false, MISS);
        leaves(doc, "a.c", false, MISS);
        leaves(doc, "a.b.c.d", false, MISS);
        leaves(doc, "c.d.e.f", false, MISS);
        leaves(doc, "A", true, MISS);
        leaves(Check.doc("\u00e9", Check.doc("\u20ac", 3)), "\u00e9.\u20ac", false, 3);
    }

    private static void stepsAtOtherValues() {
        Check.Doc doc = Check.doc("n", 1, "l", 2L, "t", "text", "b", true, "z", null);
        for (String name : new String[] {"n", "l", "t", "b", "z"}) {
            leaves(doc, name + ".x", false, MISS);
            leaves(doc, name + ".0", true, MISS);
            leaves(doc, name + ".x.y", false, MISS);
        }
        leaves(doc, "t", true, TEXT);
        leaves(doc, "z", true, NULL);
    }

    private static void namesInRows() {
        Check.Doc doc = Check.doc("r", Check.row(Check.doc("a", 1), 5, Check.doc("b", 2), Check.row(Check.doc("a", 3)),
                Check.doc("a", 4), null, "a"), "e", Check.row(), "n", Check.row(1, "x", null, Check.row()));
        leaves(doc, "r.a", false, 1, MISS, 4);
        leaves(doc, "r.b", false, MISS, 2, MISS);
        leaves(doc, "r.a.x", false, MISS, MISS, MISS);
        leaves(doc, "e.a", false);
        leaves(doc, "e.0", false);
        leaves(doc, "e", false, ROW);
        leaves(doc, "n.a", true);
        leaves(doc, "n.9", true);
    }

    private static void numbersInRows() {
        Check.Doc doc = Check.doc("r", Check.row(10, Check.doc("1", 11, "a", 12), Check.row(13, 14), Check.doc("0", 15)));
        leaves(doc, "r.0", false, 10, MISS, 15);
        leaves(doc, "r.1", false, DOC, 11, MISS);
        leaves(doc, "r.2", false, ROW, MISS, MISS);
        leaves(doc, "r.2", true, ROW, 13, 14, MISS, MISS);
        leaves(doc, "r.2.1", false, 14, MISS, MISS);
        leaves(doc, "r.1.a", false, 12, MISS, MISS);
        leaves(doc, "r.1.1", false, 11, MISS, MISS);
        leaves(doc, "r.4", false, MISS, MISS);
        leaves(doc, "r.0.0", false, MISS, MISS, MISS);
        List<Object> many = Check.row();
        for (int i = 0; i < 120; i++) {
            many.add(i + 1000);
        }
        for (int i : new int[] {0, 1, 9, 10, 11, 99, 100, 119}) {
            leaves(Check.doc("r", many), "r." + i, false, i + 1000);
        }
        leaves(Check.doc("r", many), "r.120", false);
    }

    private static void wrongNumbersInRows() {
        Check.Doc doc = Check.doc("r", Check.row(10, 11, 12));
        for (String step : new String[] {"00", "01", "-1", "+1", "1 ", " 1", "1a", "3", "4294967296", "4294967297",
            "18446744073709551616", "99999999999999999999999999999999", "\u0661"}) {
            leaves(doc, "r." + step, false);
        }
        Check.Doc named = Check.doc("r", Check.row(Check.doc("00", 1, "01", 2, "-1", 3)));
        leaves(named, "r.00", false, 1);
        leaves(named, "r.01", false, 2);
        leaves(named, "r.-1", false, 3);
    }

    private static void rowsInRows() {
        Check.Doc doc = Check.doc("r", Check.row(Check.row(Check.doc("a", 1), Check.doc("a", 2)), Check.doc("a", 3)));
        leaves(doc, "r.a", false, 3);
        leaves(doc, "r.0.a", false, 1, 2, MISS);
        leaves(doc, "r.0.1.a", false, 2, MISS, MISS, MISS);
        leaves(doc, "r.0.1", false, DOC, MISS, MISS, MISS);
        leaves(doc, "r.1", false, DOC, MISS);
        leaves(Check.doc("r", Check.row(Check.row(Check.row(7)))), "r.0.0.0", false, 7);
    }

    private static void metMoreThanOnce() {
        Check.Doc doc = Check.doc("0", Check.row(Check.doc("0", Check.row(Check.doc("0", 7)))));
        leaves(doc, "0", false, ROW);
        leaves(doc, "0.0", false, DOC, ROW);
        leaves(doc, "0.0.0", false, ROW, DOC, 7);
        leaves(doc, "0.0.0.0", false, DOC, 7, 7, MISS);
        leaves(doc, "0.0.0.0.0", false, 7, MISS, MISS, MISS);
    }

    private static void withItems() {
        Check.Doc doc = Check.doc("r", Check.row(Check.row(1, Check.row(2)), 3, Check.doc("r", Check.row(4, 5))));
        leaves(doc, "r", false, ROW);
        leaves(doc, "r", true, ROW, ROW, 3, DOC);
        leaves(doc, "r.0", true, ROW, 1, ROW, MISS);
        leaves(doc, "r.r", true, ROW, 4, 5);
        leaves(doc, "r.2", true, DOC, MISS);
        leaves(Check.doc("r", Check.row()), "r", true, ROW);
    }

    /** {"0": [{"0": [{"0": innermost}]}, {} ..]}, where steps 0 may go on at an item or at its number. */
    private static Check.Doc zeros(Object innermost, int more) {
        List<Object> outer = Check.row(Check.doc("0", Check.row(Check.doc("0", innermost))));
        for (int i = 0; i < more; i++) {
            outer.add(Check.doc());
        }
        return Check.doc("0", outer);
    }

    private static List<Object> rowOf(int count, Object item) {
        List<Object> made = Check.row();
        for (int i = 0; i < count; i++) {
            made.add(item);
        }
        return made;
    }

    private static void count(Check.Doc doc, String path, boolean items, int want) {
        ValueOrder x = new ValueOrder();
        Check.readDoc(x, 1, Check.doc("0", 5));
        Check.readDoc(x, 2, doc);
        Check.takePath(x, path);
        x.list(0, 1, items);
        x.list(1, 1, items);
        Check.due("list of many", x.list(1, 2, items), want);
        Check.due("the last", x.value(1, want - 1, 0) >= 0, want >= 0);
        Check.due("the first", x.value(1, 0, 0) >= 0, want >= 0);
        Check.due("from", x.from(1, 0), want >= 0 ? 0 : -1);
        Check.due("the other list stays", x.value(0, 0, 0) >= 0, true);
        if (want < 0) {
            Check.due("sort of none", x.sort(1), 0);
            Check.due("list again", x.list(1, 1, items), 1);
        }
    }

    private static void mostValues() {
        count(Check.doc("r", rowOf(390, null)), "r", true, 391);
        // One document, twice the row with its items, and once its item 0.
        count(zeros(rowOf(247, null), 0), "0.0.0.0", true, 498);
        count(zeros(rowOf(247, null), 1), "0.0.0.0", true, 499);
        count(zeros(rowOf(248, null), 0), "0.0.0.0", true, 500);
        count(zeros(rowOf(248, null), 1), "0.0.0.0", true, -1);
        count(zeros(rowOf(249, null), 0), "0.0.0.0", true, -1);
        count(zeros(rowOf(249, null), 0), "0.0.0.0", false, 4);
        // Four times each document of the innermost row and its item 0.
        count(zeros(rowOf(124, Check.doc()), 0), "0.0.0.0.0.0", false, 500);
        count(zeros(rowOf(124, Check.doc()), 1), "0.0.0.0.0.0", false, -1);
        count(zeros(rowOf(125, Check.doc()), 0), "0.0.0.0.0.0", false, -1);
        count(zeros(rowOf(125, Check.doc()), 0), "0.0.0.0.0.0", true, -1);
    }

    private static void noSuchThings() {
        ValueOrder x = new ValueOrder();
        Check.readDoc(x, 0, Check.doc("a", 7));
        Check.due("no path", x.list(0, 0, false), -2);
        Check.takePath(x, "a");
        Check.due("list", x.list(0, 0, false), 1);
        int[] none = {-1, 2, 3, Integer.MAX_VALUE, Integer.MIN_VALUE};
        for (int which : none) {
            Check.due("no such list", x.list(which, 0, false), -2);
        }
        int[] noSlot = {-1, 4, 5, Integer.MAX_VALUE, Integer.MIN_VALUE};
        for (int slot : noSlot) {
            Check.due("no such slot", x.list(0, slot, true), -2);
        }
        Check.due("the list stays", x.value(0, 0, 2), 7);
    }

    private static void listKeepsItsValues() {
        ValueOrder x = new ValueOrder();
        Check.readDoc(x, 0, Check.doc("a", Check.row("old", 1, Check.doc("x", 2))));
        Check.takePath(x, "a");
        x.list(0, 0, true);
        x.list(1, 0, true);
        Check.readDoc(x, 0, Check.doc("a", Check.row("newer", 2, Check.doc("x", 3, "y", 4), 5)));
        Check.due("kind", x.value(0, 0, 0), 4);
        Check.due("items", x.value(0, 0, 3), 3);
        Check.due("text", x.text(0, 1, 0), 'o');
        Check.due("length", x.value(0, 1, 3), 3);
        Check.due("number", x.value(0, 2, 2), 1);
        Check.due("elements", x.value(0, 3, 3), 1);
        Check.due("new values", x.list(0, 0, true), 5);
        Check.due("old against new", x.between(3, 3), 1);
        Check.due("old row against new", x.between(0, 0), -1);
        Check.due("other slots stay", x.compare(1, 2), 0);
    }

    private static void deepest() {
        Object innermost = Check.row(42, "t");
        for (int i = 0; i < 7; i++) {
            innermost = Check.row(Check.doc("a", innermost));
        }
        leaves(Check.doc("a", innermost), "a.a.a.a.a.a.a.a", false, ROW);
        leaves(Check.doc("a", innermost), "a.a.a.a.a.a.a.a", true, ROW, 42, TEXT);
        Object numbered = Check.row(42);
        for (int i = 0; i < 6; i++) {
            numbered = Check.row(numbered);
        }
        leaves(Check.doc("a", numbered), "a.0.0.0.0.0.0.0", false, 42);
        leaves(Check.doc("a", numbered), "a.0.0.0.0.0.0", true, ROW, 42);
    }

    private static void longestStep() {
        leaves(Check.doc("", 5, "x", 6), "x".repeat(2000), false, MISS);
        leaves(Check.doc("x".repeat(900), 7), "x".repeat(900), false, 7);
        leaves(Check.doc("x".repeat(900), 7), "x".repeat(901), false, MISS);
    }
}
