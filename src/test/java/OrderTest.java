import java.util.ArrayList;
import java.util.List;

/** Promises 5 and 9, with sort and meet: each boundary of the order of values. */
public final class OrderTest {
    // Stands for a leaf that is not there.
    private static final Object MISSING = new Object();
    // The greatest text of four bytes: the last character.
    private static final String LAST = "\udbff\udfff";

    public static void main(String[] args) {
        classes();
        edgesOfClasses();
        numbersByValue();
        numbersOfBothKinds();
        textsByteByByte();
        textsThatBegin();
        longTexts();
        documentsByClassThenNameThenValue();
        namesAsTexts();
        documentsElementByElement();
        rowsItemByItem();
        nestsThatEndFirst();
        truths();
        sameNests();
        deepDocuments();
        ladderOfValues();
        ladderOfDocuments();
        Check.end();
    }

    private static Check.Doc holding(Object value) {
        return value == MISSING ? Check.doc() : Check.doc("v", value);
    }

    /** One pair by all calls that order: compare, between, sort and meet, both ways. */
    private static void pair(String what, Object left, Object right, int want) {
        oneWay(what, left, right, want);
        oneWay(what + " back", right, left, -want);
        oneWay(what + ", with itself", left, left, 0);
    }

    private static void oneWay(String what, Object left, Object right, int want) {
        ValueOrder x = new ValueOrder();
        Check.due("read: " + what, Check.readDoc(x, 0, holding(left)), left == MISSING ? 0 : 1);
        Check.due("read: " + what, Check.readDoc(x, 1, holding(right)), right == MISSING ? 0 : 1);
        Check.due("compare: " + what, x.compare(0, 1), want);
        Check.takePath(x, "v");
        x.list(0, 0, false);
        x.list(1, 1, false);
        Check.due("between: " + what, x.between(0, 0), want);
        Check.due("meet: " + what, x.meet(0, 1, false), want == 0);
        Check.readDoc(x, 2, Check.doc("r", Check.row(holding(left), holding(right))));
        Check.takePath(x, "r.v");
        Check.due("list: " + what, x.list(0, 2, false), 2);
        Check.due("sort: " + what, x.sort(0), want == 0 ? 1 : 2);
        Check.due("from: " + what, x.from(0, 0), want > 0 ? 1 : 0);
        inDocuments(what, left, right, want);
    }

    private static void inDocuments(String what, Object left, Object right, int want) {
        if (left instanceof Check.Doc && right instanceof Check.Doc) {
            ValueOrder x = new ValueOrder();
            Check.readDoc(x, 3, (Check.Doc) left);
            Check.readDoc(x, 2, (Check.Doc) right);
            Check.due("compare as documents: " + what, x.compare(3, 2), want);
        }
    }

    /** "MISSING (0) is less than NOTHING (1), that less than numbers (2, of both kinds) ..". */
    private static void classes() {
        Object[][] classes = {{MISSING}, {null}, {7, 7L}, {"7"}, {Check.doc("x", 7)}, {Check.row(7)}, {false, true}};
        for (int k = 0; k < classes.length; k++) {
            for (int j = k + 1; j < classes.length; j++) {
                for (Object less : classes[k]) {
                    for (Object more : classes[j]) {
                        pair("class " + k + " and class " + j, less, more, -1);
                    }
                }
            }
        }
        pair("MISSING twice", MISSING, MISSING, 0);
        pair("NOTHING twice", null, null, 0);
    }

    /** The greatest of each class, as far as there is one, and the least of the next. */
    private static void edgesOfClasses() {
        pair("MISSING, NOTHING", MISSING, null, -1);
        pair("NOTHING, least number", null, Long.MIN_VALUE, -1);
        pair("NOTHING, least number of 32 bits", null, Integer.MIN_VALUE, -1);
        pair("NOTHING, number 0", null, 0, -1);
        pair("greatest number, least text", Long.MAX_VALUE, "", -1);
        pair("great text, least document", LAST + LAST, Check.doc(), -1);
        pair("text without bytes, document without elements", "", Check.doc(), -1);
        pair("great document, least row", Check.doc(LAST, true, "z", true), Check.row(), -1);
        pair("document and row without any", Check.doc(), Check.row(), -1);
        pair("great row, least truth", Check.row(true, true, true), false, -1);
        pair("row without items, truth", Check.row(), false, -1);
        pair("truth 0, number 0", false, 0, 1);
        pair("truth 1, number 2", true, 2, 1);
        pair("NOTHING, text without bytes", null, "", -1);
    }

    private static void numbersByValue() {
        long[] edges = {Long.MIN_VALUE, -1L << 33, Integer.MIN_VALUE, -65536, -256, 0, 127, 255, 65535, Integer.MAX_VALUE - 1,
            (1L << 32) - 1, 1L << 33, Long.MAX_VALUE - 1};
        for (long edge : edges) {
            pair(edge + " and one more", edge, edge + 1, -1);
            for (long other : edges) {
                pair(edge + " and " + other, edge, other, Long.compare(edge, other));
            }
        }
        int[] whole = {Integer.MIN_VALUE, -65536, -1, 0, 1, 255, Integer.MAX_VALUE};
        for (int edge : whole) {
            for (int other : whole) {
                pair(edge + " and " + other, edge, other, Integer.compare(edge, other));
            }
        }
    }

    /** "so are numbers of both kinds with one value"; one step beside it they are not. */
    private static void numbersOfBothKinds() {
        for (int number : new int[] {Integer.MIN_VALUE, -256, -1, 0, 1, 127, 128, 255, 256, Integer.MAX_VALUE}) {
            pair(number + " of both kinds", number, (long) number, 0);
            pair(number + " and one less", number, number - 1L, 1);
            pair(number + " and one more", number, number + 1L, -1);
            pair(number + " and the same low bytes", number, number + (1L << 32), -1);
            pair(number + " and the same low bytes", number, number - (1L << 32), 1);
            pair(number + " and the least", number, Long.MIN_VALUE, 1);
            pair(number + " and the greatest", number, Long.MAX_VALUE, -1);
        }
        pair("-1 is not without a sign", -1, 0xFFFFFFFFL, -1);
    }

    /** "byte by byte without sign": the last byte with one more is the greater one, wherever it stands. */
    private static void textsByteByByte() {
        String[] rising = {"\u0000", "\u0001", "0", "9", "A", "Z", "a", "z", "\u007f", "\u0080", "\u00bf", "\u00c0", "\u07ff",
            "\u0800", "\ud7ff", "\ue000", "\uffff", "\ud800\udc00", LAST};
        for (int k = 0; k < rising.length; k++) {
            for (int j = k + 1; j < rising.length; j++) {
                pair("texts " + k + " and " + j, rising[k], rising[j], -1);
                pair("behind others", "b" + rising[k], "b" + rising[j], -1);
                pair("ahead of others", rising[k] + "z", rising[j] + "a", -1);
                pair("the less being longer", rising[k] + "zzz", rising[j], -1);
                pair("behind a 0", "\u0000" + rising[k], "\u0000" + rising[j], -1);
            }
        }
    }

    /** "a text less than one that it begins". */
    private static void textsThatBegin() {
        for (String text : new String[] {"", "a", "ab", "\u0000", "a\u0000", "\u00e9", LAST}) {
            pair("the same", text, text + "", 0);
            for (String more : new String[] {"\u0000", "\u0001", "a", "\u0080", LAST, "\u0000\u0000"}) {
                pair("one that it begins", text, text + more, -1);
            }
        }
        pair("no beginning", "b", "ab", 1);
        pair("no beginning", "b", "aaaa", 1);
    }

    private static void longTexts() {
        String text = "t".repeat(800);
        pair("the last byte", text + "a", text + "b", -1);
        pair("the first byte", "b" + text, "a" + text + "z", 1);
        pair("one byte more", text, text + "\u0000", -1);
        for (int length : new int[] {127, 128, 255, 256, 257}) {
            pair("lengths", "t".repeat(length), "t".repeat(length + 1), -1);
        }
    }

    /** "by the class of the value, then by the name (as texts), then by the value". */
    private static void documentsByClassThenNameThenValue() {
        pair("class ahead of name", Check.doc("z", 1), Check.doc("a", "x"), -1);
        pair("class ahead of name", Check.doc("z", null), Check.doc("a", 1), -1);
        pair("class ahead of name", Check.doc("z", "t"), Check.doc("a", Check.doc()), -1);
        pair("class ahead of name", Check.doc("z", Check.doc()), Check.doc("a", Check.row()), -1);
        pair("class ahead of name", Check.doc("z", Check.row()), Check.doc("a", false), -1);
        pair("name ahead of value", Check.doc("a", 9), Check.doc("b", 1), -1);
        pair("name ahead of value", Check.doc("a", "z"), Check.doc("b", ""), -1);
        pair("name ahead of value", Check.doc("a", true), Check.doc("b", false), -1);
        pair("name ahead of value", Check.doc("a", Check.row(9)), Check.doc("b", Check.row()), -1);
        pair("name ahead of value", Check.doc("a", Check.doc("z", 9)), Check.doc("b", Check.doc()), -1);
        pair("both kinds are one class: the name", Check.doc("b", 1), Check.doc("a", 2L), 1);
        pair("both kinds are one class: the name", Check.doc("b", 1L), Check.doc("a", 2), 1);
        pair("then the value", Check.doc("a", 1), Check.doc("a", 2), -1);
        pair("then the value", Check.doc("a", "y"), Check.doc("a", "x"), 1);
        pair("then the value", Check.doc("a", Check.doc("b", 1)), Check.doc("a", Check.doc("b", 2)), -1);
        pair("NOTHING has the name alone", Check.doc("a", null), Check.doc("b", null), -1);
    }

    private static void namesAsTexts() {
        String[] rising = {"", "\u0001", "a", "a\u0001", "aa", "ab", "b", "\u007f", "\u0080", "\u07ff", "\u0800", "\uffff",
            "\ud800\udc00", LAST};
        for (int k = 0; k < rising.length; k++) {
            for (int j = k + 1; j < rising.length; j++) {
                pair("names " + k + " and " + j, Check.doc(rising[k], 9), Check.doc(rising[j], 1), -1);
            }
        }
    }

    /** The first element that differs decides, whatever comes behind it and however many there are. */
    private static void documentsElementByElement() {
        pair("the first", Check.doc("a", 2), Check.doc("a", 1, "b", 1), 1);
        pair("the first", Check.doc("a", 1, "b", 9), Check.doc("a", 2, "b", 1), -1);
        pair("the second's class", Check.doc("a", 1, "z", 1), Check.doc("a", 1L, "b", "x"), -1);
        pair("the second's name", Check.doc("a", 1, "b", 9), Check.doc("a", 1L, "c", 1), -1);
        pair("the second's value", Check.doc("a", 7, "b", 1), Check.doc("a", 7L, "b", 2), -1);
        pair("the last of three", Check.doc("a", 1, "b", 2, "c", 3), Check.doc("a", 1, "b", 2, "c", 4), -1);
        pair("names in another order", Check.doc("a", 1, "b", 2), Check.doc("b", 2, "a", 1), -1);
        pair("inside ahead of what is behind", Check.doc("a", Check.doc("x", 1), "b", 9),
                Check.doc("a", Check.doc("x", 2), "b", 1), -1);
        pair("inside that ends first ahead of what is behind", Check.doc("a", Check.doc(), "b", 9),
                Check.doc("a", Check.doc("x", null)), -1);
    }

    private static void rowsItemByItem() {
        pair("the first", Check.row(1, 9), Check.row(2, 1), -1);
        pair("the second", Check.row(1, 2), Check.row(1L, 3), -1);
        pair("class ahead of value", Check.row(9), Check.row("a"), -1);
        pair("class of the second", Check.row(1, 9), Check.row(1, "a"), -1);
        pair("the first ahead of the count", Check.row(2), Check.row(1, 1, 1), 1);
        pair("rows in rows", Check.row(Check.row(1, 2), 9), Check.row(Check.row(1, 3), 1), -1);
        pair("documents in rows", Check.row(Check.doc("a", 2)), Check.row(Check.doc("b", 1)), -1);
        List<Object> items = new ArrayList<>();
        for (int i = 0; i < 120; i++) {
            pair("row with a last item " + i, with(items, 1), with(items, 2), -1);
            items.add(true);
        }
    }

    private static List<Object> with(List<Object> items, Object last) {
        List<Object> made = new ArrayList<>(items);
        made.add(last);
        return made;
    }

    /** "a document or row that ends first is less". */
    private static void nestsThatEndFirst() {
        pair("none and one", Check.doc(), Check.doc("", null), -1);
        pair("one and two", Check.doc("a", 1), Check.doc("a", 1, "", null), -1);
        pair("two and three", Check.doc("a", 1, "b", 2), Check.doc("a", 1L, "b", 2, "c", null), -1);
        pair("inside", Check.doc("a", Check.doc("b", 1)), Check.doc("a", Check.doc("b", 1, "c", null)), -1);
        pair("no item and one", Check.row(), Check.row((Object) null), -1);
        pair("one item and two", Check.row(1), Check.row(1, null), -1);
        pair("two items and three", Check.row(1, "t"), Check.row(1L, "t", null), -1);
        pair("inside", Check.row(Check.row(1)), Check.row(Check.row(1, null)), -1);
        List<Object> items = new ArrayList<>();
        for (int i = 0; i < 120; i++) {
            pair(i + " items and one more", items, with(items, null), -1);
            items.add(true);
        }
    }

    private static void truths() {
        pair("0 and 1", false, true, -1);
        pair("0 and 0", false, false, 0);
        pair("1 and 1", true, true, 0);
    }

    private static void sameNests() {
        pair("documents without elements", Check.doc(), Check.doc(), 0);
        pair("rows without items", Check.row(), Check.row(), 0);
        pair("numbers of both kinds in documents", Check.doc("a", 7, "b", "t"), Check.doc("a", 7L, "b", "t"), 0);
        pair("in rows", Check.row(1, 2L), Check.row(1L, 2), 0);
        pair("in both", Check.doc("a", Check.row(Check.doc("b", 1))), Check.doc("a", Check.row(Check.doc("b", 1L))), 0);
        pair("of all kinds", Check.row(null, 1, "t", Check.doc(), Check.row(), true),
                Check.row(null, 1L, "t", Check.doc(), Check.row(), true), 0);
    }

    private static Object deep(Object innermost, int deep, boolean rows) {
        Object inner = innermost;
        for (int i = 0; i < deep; i++) {
            inner = rows ? Check.row(inner) : Check.doc("d", inner);
        }
        return inner;
    }

    /** As deep as the values of slots go: in the one that oneWay reads they lie 3 deep already. */
    private static void deepDocuments() {
        for (boolean rows : new boolean[] {false, true}) {
            pair("deep numbers", deep(1, 13, rows), deep(2, 13, rows), -1);
            pair("deep same", deep(1, 13, rows), deep(1L, 13, rows), 0);
            pair("deep classes", deep("a", 13, rows), deep(2, 13, rows), 1);
            pair("one less deep", deep(1, 12, rows), deep(1, 13, rows), -1);
            deepest(rows, 1, 2, -1);
            deepest(rows, 1, 1L, 0);
            deepest(rows, "b", "a", 1);
            deepest(rows, Check.doc(), Check.row(), -1);
            deepest(rows, Check.row(1), Check.row(1, 2), -1);
        }
    }

    /** A value in a nest that is 16 deep, or in one that is 15 deep when the value is a nest. */
    private static void deepest(boolean rows, Object left, Object right, int want) {
        int deep = left instanceof Check.Doc || left instanceof List ? 14 : 15;
        ValueOrder x = new ValueOrder();
        Check.due("read", Check.readDoc(x, 0, Check.doc("d", deep(left, deep, rows))), 1);
        Check.due("read", Check.readDoc(x, 1, Check.doc("d", deep(right, deep, rows))), 1);
        Check.due("compare of the deepest", x.compare(0, 1), want);
        Check.due("compare of the deepest back", x.compare(1, 0), -want);
    }

    /** Values, the least first, each different from the others. */
    private static List<Object> ladder() {
        return Check.row(null, Long.MIN_VALUE, Integer.MIN_VALUE, -1, 0L, 1, 2L, 256, Integer.MAX_VALUE,
                1L << 32, Long.MAX_VALUE, "", "\u0000", "\u0000a", "A", "a", "a\u0000", "aa", "b", "\u007f", "\u00e9",
                "\u20ac", "\uff5e", "\ud83d\ude00", Check.doc(), Check.doc("b", null), Check.doc("", 5),
                Check.doc("a", 1), Check.doc("a", 1, "b", null), Check.doc("a", 2), Check.doc("a", 2, "b", 0),
                Check.doc("a\u0001", 0), Check.doc("b", 0), Check.doc("\u00e9", -7L), Check.doc("a", "x"),
                Check.doc("a", Check.doc()), Check.doc("a", Check.row()), Check.doc("a", false), Check.doc("a", true),
                Check.row(), Check.row((Object) null), Check.row(null, 1), Check.row(1), Check.row(1, 2),
                Check.row(1, 2, null), Check.row(1, "a"), Check.row(2), Check.row("a"), Check.row(Check.doc("x", 1)),
                Check.row(Check.row()), Check.row(Check.row(1)), Check.row(false), false, true);
    }

    private static void ladderOfValues() {
        List<Object> ladder = ladder();
        for (int k = 0; k < ladder.size(); k++) {
            ValueOrder x = new ValueOrder();
            Check.readDoc(x, 0, Check.doc("r", ladder));
            Check.takePath(x, "r");
            Check.due("list", x.list(0, 0, true), ladder.size() + 1);
            Check.due("list", x.list(1, 0, true), ladder.size() + 1);
            for (int j = 0; j < ladder.size(); j++) {
                Check.due("between(" + k + ", " + j + ")", x.between(k + 1, j + 1), Integer.compare(k, j));
            }
        }
    }

    private static void ladderOfDocuments() {
        Object[] documents = ladder().stream().filter(v -> v instanceof Check.Doc).toArray();
        for (int k = 0; k < documents.length; k++) {
            ValueOrder x = new ValueOrder();
            Check.readDoc(x, 0, (Check.Doc) documents[k]);
            for (int j = 0; j < documents.length; j++) {
                Check.readDoc(x, 1, (Check.Doc) documents[j]);
                Check.due("compare " + k + " " + j, x.compare(0, 1), Integer.compare(k, j));
                Check.due("compare back " + k + " " + j, x.compare(1, 0), Integer.compare(j, k));
            }
        }
    }
}
