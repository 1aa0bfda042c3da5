import java.util.List;

/** Promises 5 and 9: compare and between, with the order of values. */
public final class OrderTest {
    public static void main(String[] args) {
        slots();
        ladderOfValues();
        ladderOfDocuments();
        sameNumbersOfBothKinds();
        deepDocuments();
        betweenLists();
        noSuchValues();
        Check.end();
    }

    private static void slots() {
        ValueOrder x = new ValueOrder();
        Check.readDoc(x, 2, Check.doc("a", 1));
        Check.due("compare(2, 3)", x.compare(2, 3), 1);
        Check.due("compare(3, 2)", x.compare(3, 2), -1);
        Check.due("compare(2, 2)", x.compare(2, 2), 0);
        int[] none = {-1, 4, 5, Integer.MAX_VALUE, Integer.MIN_VALUE};
        for (int slot : none) {
            Check.due("no such slot", x.compare(slot, 0), -2);
            Check.due("no such slot", x.compare(0, slot), -2);
            Check.due("no such slots", x.compare(slot, slot), -2);
        }
    }

    /** Values, the least first, each different from the others. */
    private static List<Object> ladder() {
        return Check.row(null, Long.MIN_VALUE, Integer.MIN_VALUE, -1, 0L, 1, 2L, 256, Integer.MAX_VALUE,
                1L << 32, Long.MAX_VALUE, "", "\u0000", "\u0000a", "A", "a", "a\u0000", "aa", "b", "\u007f", "\u00e9",
                "\u20ac", "\uff5e", "\ud83d\ude00", Check.doc(), Check.doc("b", null), Check.doc("", 5),
                Check.doc("a", 1), Check.doc("a", 1, "b", null), Check.doc("a", 2), Check.doc("a", 2, "b", 0),
                Check.doc("a\u0001", 0), Check.doc("b", 0), Check.doc("\u00e9", -7L), Check.doc("a", "x"),
                Check.doc("a", Check.doc()), Check.doc("a", Check.row()), Check.doc("a", false), Check.doc("a", true),
                Check.row(), Check.row((Object) null), Check.row(null, 1), Check.row(1), Check.row(1, 2),
                Check.row(1, 2, null), Check.row(1, "a"), Check.row(2), Check.row("a"), Check.row(Check.doc("x", 1)),
                Check.row(Check.row()), Check.row(Check.row(1)), Check.row(false), false, true);
    }

    private static void ladderOfValues() {
        List<Object> ladder = ladder();
        for (int k = 0; k < ladder.size(); k++) {
            ValueOrder x = new ValueOrder();
            Check.readDoc(x, 0, Check.doc("r", ladder));
            Check.takePath(x, "r");
            Check.due("list", x.list(0, 0, true), ladder.size() + 1);
            Check.due("list", x.list(1, 0, true), ladder.size() + 1);
            for (int j = 0; j < ladder.size(); j++) {
                Check.due("between(" + k + ", " + j + ")", x.between(k + 1, j + 1), Integer.compare(k, j));
            }
        }
    }

    private static void ladderOfDocuments() {
        Object[] documents = ladder().stream().filter(v -> v instanceof Check.Doc).toArray();
        for (int k = 0; k < documents.length; k++) {
            ValueOrder x = new ValueOrder();
            Check.readDoc(x, 0, (Check.Doc) documents[k]);
            for (int j = 0; j < documents.length; j++) {
                Check.readDoc(x, 1, (Check.Doc) documents[j]);
                Check.due("compare " + k + " " + j, x.compare(0, 1), Integer.compare(k, j));
                Check.due("compare back " + k + " " + j, x.compare(1, 0), Integer.compare(j, k));
            }
        }
    }

    private static void pair(String what, Check.Doc left, Check.Doc right, int want) {
        ValueOrder x = new ValueOrder();
        Check.readDoc(x, 0, left);
        Check.readDoc(x, 1, right);
        Check.due(what, x.compare(0, 1), want);
        Check.due(what + " back", x.compare(1, 0), -want);
    }

    private static void sameNumbersOfBothKinds() {
        pair("7 of both kinds", Check.doc("a", 7), Check.doc("a", 7L), 0);
        pair("-7 of both kinds", Check.doc("a", -7), Check.doc("a", -7L), 0);
        pair("in rows", Check.doc("a", Check.row(1, 2L)), Check.doc("a", Check.row(1L, 2)), 0);
        pair("behind the same", Check.doc("a", 7, "b", 1), Check.doc("a", 7L, "b", 2), -1);
        pair("names in another order", Check.doc("a", 1, "b", 2), Check.doc("b", 2, "a", 1), -1);
        pair("class ahead of name", Check.doc("z", 1), Check.doc("a", "x"), -1);
        pair("name ahead of value", Check.doc("a", 9), Check.doc("b", 1), -1);
        pair("first element ahead of count", Check.doc("a", 2), Check.doc("a", 1, "b", 1), 1);
        pair("truth and number", Check.doc("a", true), Check.doc("a", 1), 1);
        pair("no sign in bytes", Check.doc("\u00e9", 1), Check.doc("z", 1), 1);
    }

    private static Check.Doc deep(Object innermost, boolean rows) {
        Object inner = Check.doc("d", innermost);
        for (int i = 0; i < 14; i++) {
            inner = rows ? Check.row(inner) : Check.doc("d", inner);
        }
        return Check.doc("d", inner);
    }

    private static void deepDocuments() {
        for (boolean rows : new boolean[] {false, true}) {
            pair("deep numbers", deep(1, rows), deep(2, rows), -1);
            pair("deep same", deep(1, rows), deep(1L, rows), 0);
            pair("deep classes", deep("a", rows), deep(2, rows), 1);
        }
    }

    private static void betweenLists() {
        ValueOrder x = new ValueOrder();
        Check.readDoc(x, 0, Check.doc("a", 1));
        Check.readDoc(x, 1, Check.doc("a", 2L));
        Check.takePath(x, "a");
        x.list(0, 0, false);
        x.list(1, 1, false);
        Check.due("k is of list 0, j of list 1", x.between(0, 0), -1);
        x.list(0, 1, false);
        Check.due("same", x.between(0, 0), 0);
        x.list(1, 0, false);
        Check.due("more", x.between(0, 0), 1);
        Check.readDoc(x, 3, Check.doc());
        x.list(0, 3, false);
        Check.due("missing and number", x.between(0, 0), -1);
        x.list(1, 3, false);
        Check.due("missing and missing", x.between(0, 0), 0);
        Check.readDoc(x, 3, Check.doc("a", null));
        x.list(0, 3, false);
        Check.due("nothing and missing", x.between(0, 0), 1);
    }

    private static void noSuchValues() {
        ValueOrder x = new ValueOrder();
        Check.readDoc(x, 0, Check.doc("a", Check.row(1, 2)));
        Check.takePath(x, "a");
        x.list(0, 0, true);
        Check.due("list 1 has none", x.between(0, 0), -2);
        x.list(1, 0, false);
        Check.due("between(0, 0)", x.between(0, 0), 0);
        Check.due("between(2, 0)", x.between(2, 0), -1);
        Check.due("between(3, 0)", x.between(3, 0), -2);
        Check.due("between(0, 1)", x.between(0, 1), -2);
        Check.due("between(-1, 0)", x.between(-1, 0), -2);
        Check.due("between(0, -1)", x.between(0, -1), -2);
        Check.due("between(MAX, 0)", x.between(Integer.MAX_VALUE, 0), -2);
        Check.due("between(0, MIN)", x.between(0, Integer.MIN_VALUE), -2);
    }
}
