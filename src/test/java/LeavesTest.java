import java.util.Arrays;
import java.util.List;

/** Promise 6: the leaves of a path, with items and without, at the bounds that 'Terms' names. */
public final class LeavesTest {
    // How leaves that are no numbers are shown.
    private static final long MISS = -1000;
    private static final long NULL = -1001;
    private static final long TEXT = -1002;
    private static final long DOC = -1003;
    private static final long ROW = -1004;

    public static void main(String[] args) {
        stepsInDocuments();
        eightSteps();
        stepsAtOtherValues();
        namesInRows();
        numbersInRows();
        lastNumberInRows();
        wrongNumbersInRows();
        rowsInRows();
        onlyDocumentsOfRows();
        noLeafAtAll();
        metMoreThanOnce();
        withItems();
        itemsBehindTheirRow();
        manyItems();
        deepest();
        longestStep();
        Check.end();
    }

    private static long shown(ValueOrder x, int which, int k) {
        switch ((int) x.value(which, k, 0)) {
            case 0:
                return MISS;
            case 2:
                return TEXT;
            case 3:
                return DOC;
            case 4:
                return ROW;
            case 10:
                return NULL;
            default:
                return x.value(which, k, 2);
        }
    }

    private static void leaves(Check.Doc doc, String path, boolean items, long... want) {
        ValueOrder x = new ValueOrder();
        String what = path + (items ? " with items" : "");
        Check.readDoc(x, 1, doc);
        Check.takePath(x, path);
        for (int which = 0; which < 2; which++) {
            Check.due("list of " + what, x.list(which, 1, items), want.length);
            for (int k = 0; k < want.length; k++) {
                Check.due("leaf " + k + " of " + what, shown(x, which, k), want[k]);
            }
            Check.due("value behind the last of " + what, x.value(which, want.length, 0), -1);
        }
    }

    private static void stepsInDocuments() {
        Check.Doc doc = Check.doc("a", Check.doc("b", Check.doc("c", 5), "", 6, "0", 7, "bb", 8), "b", 9, "a.b", 10);
        leaves(doc, "a", false, DOC);
        leaves(doc, "a", true, DOC);
        leaves(doc, "a.b", false, DOC);
        leaves(doc, "a.b.c", false, 5);
        leaves(doc, "a.0", false, 7);
        leaves(doc, "a.bb", false, 8);
        leaves(doc, "b", false, 9);
        leaves(doc, "c", false, MISS);
        leaves(doc, "a.c", false, MISS);
        leaves(doc, "a.b.c.d", false, MISS);
        leaves(doc, "c.d.e.f", false, MISS);
        leaves(doc, "A", true, MISS);
        leaves(Check.doc("\u00e9", Check.doc("\u20ac", 3)), "\u00e9.\u20ac", false, 3);
    }

    private static void stepsAtOtherValues() {
        Check.Doc doc = Check.doc("n", 1, "l", 2L, "t", "text", "b", true, "z", null);
        for (String name : new String[] {"n", "l", "t", "b", "z"}) {
            leaves(doc, name + ".x", false, MISS);
            leaves(doc, name + ".0", true, MISS);
            leaves(doc, name + ".x.y", false, MISS);
        }
        leaves(doc, "t", true, TEXT);
        leaves(doc, "z", true, NULL);
    }

    private static void namesInRows() {
        Check.Doc doc = Check.doc("r", Check.row(Check.doc("a", 1), 5, Check.doc("b", 2), Check.row(Check.doc("a", 3)),
                Check.doc("a", 4), null, "a"), "e", Check.row(), "n", Check.row(1, "x", null, Check.row()));
        leaves(doc, "r.a", false, 1, MISS, 4);
        leaves(doc, "r.b", false, MISS, 2, MISS);
        leaves(doc, "r.a.x", false, MISS, MISS, MISS);
        leaves(doc, "e.a", false);
        leaves(doc, "e.0", false);
        leaves(doc, "e", false, ROW);
        leaves(doc, "n.a", true);
        leaves(doc, "n.9", true);
    }

    private static void numbersInRows() {
        Check.Doc doc = Check.doc("r", Check.row(10, Check.doc("1", 11, "a", 12), Check.row(13, 14), Check.doc("0", 15)));
        leaves(doc, "r.0", false, 10, MISS, 15);
        leaves(doc, "r.1", false, DOC, 11, MISS);
        leaves(doc, "r.2", false, ROW, MISS, MISS);
        leaves(doc, "r.2", true, ROW, 13, 14, MISS, MISS);
        leaves(doc, "r.2.1", false, 14, MISS, MISS);
        leaves(doc, "r.1.a", false, 12, MISS, MISS);
        leaves(doc, "r.1.1", false, 11, MISS, MISS);
        leaves(doc, "r.4", false, MISS, MISS);
        leaves(doc, "r.0.0", false, MISS, MISS, MISS);
        List<Object> many = Check.row();
        for (int i = 0; i < 120; i++) {
            many.add(i + 1000);
        }
        for (int i : new int[] {0, 1, 9, 10, 11, 99, 100, 119}) {
            leaves(Check.doc("r", many), "r." + i, false, i + 1000);
        }
        leaves(Check.doc("r", many), "r.120", false);
    }

    private static void wrongNumbersInRows() {
        Check.Doc doc = Check.doc("r", Check.row(10, 11, 12));
        for (String step : new String[] {"00", "01", "-1", "+1", "1 ", " 1", "1a", "3", "4294967296", "4294967297",
            "18446744073709551616", "99999999999999999999999999999999", "\u0661"}) {
            leaves(doc, "r." + step, false);
        }
        Check.Doc named = Check.doc("r", Check.row(Check.doc("00", 1, "01", 2, "-1", 3)));
        leaves(named, "r.00", false, 1);
        leaves(named, "r.01", false, 2);
        leaves(named, "r.-1", false, 3);
    }

    private static void rowsInRows() {
        Check.Doc doc = Check.doc("r", Check.row(Check.row(Check.doc("a", 1), Check.doc("a", 2)), Check.doc("a", 3)));
        leaves(doc, "r.a", false, 3);
        leaves(doc, "r.0.a", false, 1, 2, MISS);
        leaves(doc, "r.0.1.a", false, 2, MISS, MISS, MISS);
        leaves(doc, "r.0.1", false, DOC, MISS, MISS, MISS);
        leaves(doc, "r.1", false, DOC, MISS);
        leaves(Check.doc("r", Check.row(Check.row(Check.row(7)))), "r.0.0.0", false, 7);
    }

    private static void metMoreThanOnce() {
        Check.Doc doc = Check.doc("0", Check.row(Check.doc("0", Check.row(Check.doc("0", 7)))));
        leaves(doc, "0", false, ROW);
        leaves(doc, "0.0", false, DOC, ROW);
        leaves(doc, "0.0.0", false, ROW, DOC, 7);
        leaves(doc, "0.0.0.0", false, DOC, 7, 7, MISS);
        leaves(doc, "0.0.0.0.0", false, 7, MISS, MISS, MISS);
    }

    private static void withItems() {
        Check.Doc doc = Check.doc("r", Check.row(Check.row(1, Check.row(2)), 3, Check.doc("r", Check.row(4, 5))));
        leaves(doc, "r", false, ROW);
        leaves(doc, "r", true, ROW, ROW, 3, DOC);
        leaves(doc, "r.0", true, ROW, 1, ROW, MISS);
        leaves(doc, "r.r", true, ROW, 4, 5);
        leaves(doc, "r.2", true, DOC, MISS);
        leaves(Check.doc("r", Check.row()), "r", true, ROW);
    }

    /** Each of eight steps counts: with one of them changed there is one MISSING leaf, whichever it is. */
    private static void eightSteps() {
        Object inner = 42;
        String[] names = {"a", "b", "c", "d", "e", "f", "g", "h"};
        for (int i = names.length - 1; i >= 0; i--) {
            inner = Check.doc("x", 1, names[i], inner, "y", 2);
        }
        Check.Doc doc = (Check.Doc) inner;
        leaves(doc, String.join(".", names), false, 42);
        for (int i = 0; i < names.length; i++) {
            String[] other = names.clone();
            other[i] = "z";
            leaves(doc, String.join(".", other), false, MISS);
            other[i] = "x";
            leaves(doc, String.join(".", other), false, i == 7 ? 1 : MISS);
            String[] first = Arrays.copyOf(names, i + 1);
            leaves(doc, String.join(".", first), true, i == 7 ? 42 : DOC);
        }
    }

    /** "takes the item of that number, if there is one": the last one, and one step beyond it. */
    private static void lastNumberInRows() {
        for (int count : new int[] {0, 1, 2, 9, 10, 11, 12, 99, 100, 101, 102, 127, 128, 129, 255, 256, 257, 300}) {
            List<Object> items = Check.row();
            for (int i = 0; i < count; i++) {
                items.add(i == count - 1 ? true : i == 0 ? (Object) false : null);
            }
            Check.Doc doc = Check.doc("r", items);
            if (count > 0) {
                leaves(doc, "r." + (count - 1), false, 1);
                leaves(doc, "r.0", false, count == 1 ? 1 : 0);
            }
            if (count > 1) {
                leaves(doc, "r." + (count - 2), false, count == 2 ? 0 : NULL);
            }
            leaves(doc, "r." + count, false);
            leaves(doc, "r." + count + ".a", true);
            leaves(doc, "r." + (count + 1), true);
            leaves(doc, "r." + (count + 256), false);
            leaves(doc, "r." + (count + 65536), false);
            leaves(doc, "r." + ((1L << 32) + count), false);
            leaves(doc, "r." + ((1L << 32) + Math.max(0, count - 1)), false);
            leaves(doc, "r.0" + Math.max(0, count - 1), false);
        }
    }

    /** "goes on at each item that is a document": not at rows, and not at rows in these. */
    private static void onlyDocumentsOfRows() {
        Check.Doc doc = Check.doc("r", Check.row(Check.row(Check.doc("a", 1)), null, 5, 6L, "a", true, Check.row(), Check.doc(),
                Check.doc("a", 2), Check.doc("b", 3), Check.doc("a", Check.row(Check.doc("a", 4), 7))));
        leaves(doc, "r.a", false, MISS, 2, MISS, ROW);
        leaves(doc, "r.a", true, MISS, 2, MISS, ROW, DOC, 7);
        leaves(doc, "r.a.a", false, MISS, MISS, MISS, 4);
        leaves(doc, "r.a.1", false, MISS, MISS, MISS, 7, MISS);
        leaves(doc, "r.10", false, DOC, MISS, MISS, MISS, MISS);
        leaves(doc, "r.0", false, ROW, MISS, MISS, MISS, MISS);
        leaves(doc, "r.0.a", false, 1, MISS, MISS, MISS, MISS);
    }

    /** "So at a row there may be no leaf at all", also beside rows where there is one. */
    private static void noLeafAtAll() {
        leaves(Check.doc("r", Check.row()), "r.a", false);
        leaves(Check.doc("r", Check.row()), "r.0", true);
        leaves(Check.doc("r", Check.row(1, Check.row(2))), "r.a", true);
        leaves(Check.doc("r", Check.row(1, Check.row(2))), "r.1.1", false);
        leaves(Check.doc("r", Check.row(Check.doc("a", Check.row()), Check.doc("a", Check.row(3)))), "r.a.0", false, 3);
        leaves(Check.doc("r", Check.row(Check.doc("a", Check.row()), Check.doc("a", Check.row(3)))), "r.a.b", false);
        leaves(Check.doc("r", Check.row(1)), "r.0.a", false, MISS);
        leaves(Check.doc("r", 1), "r.a", false, MISS);
    }

    /** "each leaf, and behind it, when it is a row, its items": these alone, once, and of no other kind. */
    private static void itemsBehindTheirRow() {
        Check.Doc doc = Check.doc("d", Check.row(Check.doc("r", Check.row(1, 2)), Check.doc("r", 3), Check.doc("r", Check.row()),
                Check.doc(), Check.doc("r", Check.row(Check.row(4), Check.doc("r", 5), null)), Check.doc("r", "text"),
                Check.doc("r", Check.doc("0", 6))));
        leaves(doc, "d.r", false, ROW, 3, ROW, MISS, ROW, TEXT, DOC);
        leaves(doc, "d.r", true, ROW, 1, 2, 3, ROW, MISS, ROW, ROW, DOC, NULL, TEXT, DOC);
    }

    private static void manyItems() {
        List<Object> items = Check.row();
        long[] want = new long[420];
        want[0] = ROW;
        for (int i = 0; i < 419; i++) {
            items.add(null);
            want[i + 1] = NULL;
        }
        ValueOrder x = new ValueOrder();
        Check.due("read", Check.readDoc(x, 0, Check.doc("r", items)), 1);
        Check.takePath(x, "r");
        Check.due("419 items and their row", x.list(0, 0, true), 420);
        for (int k = 410; k < 420; k++) {
            Check.due("item", shown(x, 0, k), want[k]);
        }
        Check.due("behind the last", x.value(0, 420, 0), -1);
    }

    private static void deepest() {
        Object innermost = Check.row(42, "t");
        for (int i = 0; i < 7; i++) {
            innermost = Check.row(Check.doc("a", innermost));
        }
        leaves(Check.doc("a", innermost), "a.a.a.a.a.a.a.a", false, ROW);
        leaves(Check.doc("a", innermost), "a.a.a.a.a.a.a.a", true, ROW, 42, TEXT);
        Object numbered = Check.row(42);
        for (int i = 0; i < 6; i++) {
            numbered = Check.row(numbered);
        }
        leaves(Check.doc("a", numbered), "a.0.0.0.0.0.0.0", false, 42);
        leaves(Check.doc("a", numbered), "a.0.0.0.0.0.0", true, ROW, 42);
    }

    private static void longestStep() {
        leaves(Check.doc("", 5, "x", 6), "x".repeat(2000), false, MISS);
        leaves(Check.doc("x".repeat(900), 7), "x".repeat(900), false, 7);
        leaves(Check.doc("x".repeat(900), 7), "x".repeat(901), false, MISS);
    }
}
