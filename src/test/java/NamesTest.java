import java.util.ArrayList;
import java.util.List;

/** Promise 3: the bounds of names, in documents and in rows. */
public final class NamesTest {
    public static void main(String[] args) {
        names();
        differentNames();
        mostElements();
        rows();
        mostItems();
        rowsInRows();
        itemsOfEachKind();
        namesOfItems();
        Check.end();
    }

    private static void right(String what, byte[] bytes, int want) {
        Check.reads(what, bytes, want);
    }

    private static void wrong(String what, byte[]... parts) {
        Check.reads(what, Check.join(parts), -1);
    }

    /** "any bytes but 0, right UTF-8"; the 0 behind them must be inside the document too. */
    private static void names() {
        right("a name without bytes", Check.encode(Check.doc("", 1)), 1);
        for (int only = 1; only < 256; only++) {
            right("a name of byte " + only, Check.nest(Check.join(Check.bytes(10, only, 0))), only < 128 ? 1 : -1);
        }
        right("any bytes", Check.encode(Check.doc(".", 1, " ", 2, "\u0001", 3, "\u00e9\u20ac", 4, "a.b", 5)), 5);
        right("the longest name", Check.encode(Check.doc("n".repeat(1993), null)), 1);
        wrong("no right UTF-8", Check.nest(Check.join(Check.bytes(10, 0xFF, 0))));
        wrong("half a character", Check.nest(Check.join(Check.bytes(10, 65, 0xE2, 0x82, 0))));
        wrong("a character across the 0", Check.nest(Check.join(Check.bytes(10, 0xC3, 0, 0xA9, 0))));
        wrong("no 0 behind a name but the last one", Check.bytes(8, 0, 0, 0, 10, 65, 66, 0));
        wrong("no name", Check.bytes(6, 0, 0, 0, 10, 0));
        right("in a document digits are free", Check.encode(Check.doc("1", 1, "0", 2, "00", 3, "7", 4)), 4);
    }

    /** "The names of one document are different": the last is held against each of the others. */
    private static void differentNames() {
        right("one begins the other", Check.encode(Check.doc("ab", 1, "a", 2, "", 3, "abc", 4)), 4);
        right("small and large letters", Check.encode(Check.doc("a", 1, "A", 2)), 2);
        right("one byte of three", Check.encode(Check.doc("aaa", 1, "baa", 2, "aba", 3, "aab", 4)), 4);
        right("one shown like the other", Check.encode(Check.doc("\u00e9", 1, "e\u0301", 2)), 2);
        String[] names = {"", "a", "b", "ab", "\u00e9", "0"};
        for (int same = 0; same < names.length; same++) {
            Check.Doc doc = Check.doc();
            for (String name : names) {
                doc.with(name, 1);
            }
            right("all different", Check.encode(doc), names.length);
            wrong("twice " + names[same], Check.encode(doc.with(names[same], null)));
            wrong("and in an inner document", Check.encode(Check.doc("d", doc)));
            wrong("and in a row's", Check.encode(Check.doc("d", Check.row(1, doc))));
        }
        wrong("twice, side by side", Check.encode(Check.doc("a", 1, "a", 1)));
        wrong("twice in the last of two", Check.encode(Check.doc("d", Check.doc("x", 1), "e", Check.doc("x", 1, "x", 2))));
        right("again in another document", Check.encode(Check.doc("a", Check.doc("a", Check.doc("a", 1)),
                "b", Check.doc("a", 1))), 2);
        right("again in each item", Check.encode(Check.doc("r", Check.row(Check.doc("a", 1), Check.doc("a", 1)))), 1);
    }

    /** As many elements as 2,000 bytes can hold, and the last name being another's. */
    private static void mostElements() {
        Check.Doc doc = Check.doc("", null);
        for (char first = 1; first < 128; first++) {
            doc.with(String.valueOf(first), null);
        }
        for (int i = 0; i < 402; i++) {
            doc.with("" + (char) (1 + i / 127) + (char) (1 + i % 127), null);
        }
        right("530 elements", Check.encode(doc), 530);
        wrong("the last name again", Check.encode(doc.with("\u0004\u0015", null)));
    }

    private static byte[] rowNamed(String... names) {
        byte[][] items = new byte[names.length][];
        for (int i = 0; i < names.length; i++) {
            items[i] = Check.element(10, names[i], Check.bytes());
        }
        return Check.nest(Check.element(4, "r", Check.nest(items)));
    }

    /** "names are 0, 1, 2, .. in decimal digits, in this order". */
    private static void rows() {
        right("no items", rowNamed(), 1);
        right("0 to 2", rowNamed("0", "1", "2"), 1);
        String[][] wrongs = {{"1"}, {""}, {"00"}, {"a"}, {"-0"}, {"+0"}, {"0", "2"}, {"0", "0"}, {"0", "01"},
            {"1", "0"}, {"0", ""}, {"0", "1", "02"}, {"0", "1", "1"}, {"0", "\u0661"}, {" 0"}, {"0", "11"}, {":"}};
        for (String[] names : wrongs) {
            wrong("names of a row " + String.join(",", names), rowNamed(names));
        }
        List<String> many = new ArrayList<>();
        for (int i = 0; i < 350; i++) {
            many.add(Integer.toString(i));
        }
        right("350 items", rowNamed(many.toArray(new String[0])), 1);
        for (int at : new int[] {9, 10, 11, 99, 100, 101, 110, 349}) {
            String[] other = many.toArray(new String[0]);
            other[at] = "0" + at;
            wrong("a 0 ahead at " + at, rowNamed(other));
            other[at] = Integer.toString(at + 1);
            wrong("one more at " + at, rowNamed(other));
            other[at] = Integer.toString(at % 10);
            right("the last digit at " + at, rowNamed(other), at < 10 ? 1 : -1);
            other[at] = at + "0";
            wrong("a 0 behind at " + at, rowNamed(other));
        }
    }

    /** As many items as 2,000 bytes can hold, and two of them having changed their names. */
    private static void mostItems() {
        List<String> many = new ArrayList<>();
        for (int i = 0; i < 419; i++) {
            many.add(Integer.toString(i));
        }
        right("419 items", rowNamed(many.toArray(new String[0])), 1);
        for (int at : new int[] {0, 9, 99, 254, 255, 256, 417}) {
            String[] other = many.toArray(new String[0]);
            other[at] = many.get(at + 1);
            other[at + 1] = many.get(at);
            wrong("items " + at + " and " + (at + 1) + " in the other order", rowNamed(other));
        }
    }

    /** Each row begins with 0 again. */
    private static void rowsInRows() {
        right("rows in a row", Check.encode(Check.doc("r", Check.row(Check.row(1, 2), Check.row(1, 2, 3), Check.row()))), 1);
        byte[] wrongInner = Check.nest(Check.element(10, "1", Check.bytes()));
        byte[] rightInner = Check.nest(Check.element(10, "0", Check.bytes()));
        byte[] zero = Check.element(10, "0", Check.bytes());
        right("the inner begins with 0", Check.nest(Check.element(4, "r", Check.nest(zero,
                Check.element(4, "1", rightInner)))), 1);
        wrong("the inner goes on counting", Check.nest(Check.element(4, "r", Check.nest(zero,
                Check.element(4, "1", wrongInner)))));
        right("a document in a row is free", Check.nest(Check.element(4, "r", Check.nest(zero,
                Check.element(3, "1", wrongInner)))), 1);
        wrong("the outer goes on where the inner ends", Check.nest(Check.element(4, "r", Check.nest(
                Check.element(4, "0", Check.nest(zero, Check.element(10, "1", Check.bytes()))),
                Check.element(10, "2", Check.bytes())))));
    }

    /** Only a row's names are numbers: a row of each kind of value. */
    private static void itemsOfEachKind() {
        right("each kind", Check.encode(Check.doc("r", Check.row(1, 2L, true, null, "t", Check.doc("x", 1), Check.row()))), 1);
        byte[] truth = Check.element(8, "1", Check.bytes(1));
        wrong("each kind is held to its number", Check.nest(Check.element(4, "r", Check.nest(truth))));
    }

    /** Behind that many right items, one that bears each byte, alone and ahead of the right digits' end. */
    private static void namesOfItems() {
        for (int number : new int[] {0, 1, 9, 10, 11, 17, 52, 79, 99, 100, 109, 110, 111, 199, 200}) {
            String digits = Integer.toString(number);
            for (char c = 1; c < 128; c++) {
                for (int kept = 0; kept <= digits.length(); kept++) {
                    itemNamed(number, c + digits.substring(digits.length() - kept));
                    itemNamed(number, digits.substring(0, kept) + c);
                }
            }
        }
    }

    private static void itemNamed(int number, String last) {
        String[] names = new String[number + 1];
        for (int i = 0; i < number; i++) {
            names[i] = Integer.toString(i);
        }
        names[number] = last;
        right("item " + number + " named " + last, rowNamed(names), last.equals(Integer.toString(number)) ? 1 : -1);
    }
}
