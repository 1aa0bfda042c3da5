import java.util.ArrayList;
import java.util.Arrays;
import java.util.List;

/** Promise 3: read, with what the document says of bytes. */
public final class ReadTest {
    private static final byte[] WHOLE = Check.lowFirst(7, 4);

    public static void main(String[] args) {
        elementsAreCounted();
        slotsAndLengths();
        tapeIsEmptyThen();
        slotStays();
        sizes();
        closingZeros();
        kinds();
        numbersAndTruths();
        texts();
        names();
        rows();
        namesOfItems();
        depth();
        utf8Characters();
        cutDocuments();
        Check.end();
    }

    private static void right(String what, byte[] bytes, int want) {
        ValueOrder x = new ValueOrder();
        Check.due(what, Check.readBytes(x, 0, bytes), want);
    }

    private static void wrong(String what, byte[]... parts) {
        right(what, Check.join(parts), -1);
    }

    private static void elementsAreCounted() {
        right("no elements", Check.encode(Check.doc()), 0);
        right("one", Check.encode(Check.doc("a", 1)), 1);
        right("all kinds", Check.encode(Check.doc("a", 1, "b", 2L, "c", true, "d", null, "e", "text",
                "f", Check.doc("x", 1, "y", 2), "g", Check.row(1, 2, 3))), 7);
        Check.Doc many = Check.doc();
        for (int i = 0; i < 300; i++) {
            many.with(Integer.toString(i), null);
        }
        right("300 elements", Check.encode(many), 300);
    }

    private static void slotsAndLengths() {
        ValueOrder x = new ValueOrder();
        byte[] bytes = Check.encode(Check.doc("a", 1));
        Check.feedAll(x, bytes);
        Check.due("read(-1, 12)", x.read(-1, 12), -2);
        Check.due("read(4, 12)", x.read(4, 12), -2);
        Check.due("read(MAX, 12)", x.read(Integer.MAX_VALUE, 12), -2);
        Check.due("read(MIN, 12)", x.read(Integer.MIN_VALUE, 12), -2);
        Check.due("read(0, -1)", x.read(0, -1), -2);
        Check.due("read(0, MIN)", x.read(0, Integer.MIN_VALUE), -2);
        Check.due("read(0, 21)", x.read(0, 21), -2);
        Check.due("read(0, MAX)", x.read(0, Integer.MAX_VALUE), -2);
        Check.due("read of what stayed", x.read(3, bytes.length), 1);
        for (int slot = 0; slot < 4; slot++) {
            Check.due("read into each slot", Check.readBytes(x, slot, bytes), 1);
        }
    }

    private static void tapeIsEmptyThen() {
        ValueOrder x = new ValueOrder();
        Check.readDoc(x, 0, Check.doc());
        Check.due("read behind a right one", x.read(0, 1), -2);
        Check.due("read of no bytes", x.read(0, 0), -1);
        x.feed(-1, 0, 0, 0, 0);
        Check.due("read of wrong bytes", x.read(0, 20), -1);
        Check.due("read behind a wrong one", x.read(0, 1), -2);
        x.feed(-1, 0, 0, 0, 0);
        Check.due("read of no bytes", x.read(0, 0), -1);
        Check.due("read behind it", x.read(0, 1), -2);
        Check.due("feed behind it", x.feed(0, 0, 0, 0, 0), 20);
    }

    private static void slotStays() {
        ValueOrder x = new ValueOrder();
        Check.readDoc(x, 0, Check.doc("a", 1));
        Check.readDoc(x, 1, Check.doc("a", 1));
        Check.due("wrong bytes", Check.readBytes(x, 0, Check.bytes(5, 0, 0, 0, 1)), -1);
        Check.due("compare", x.compare(0, 1), 0);
        Check.due("right bytes", Check.readDoc(x, 0, Check.doc("a", 2)), 1);
        Check.due("compare", x.compare(0, 1), 1);
    }

    private static void sizes() {
        byte[] inside = Check.element(16, "a", WHOLE);
        for (int size = -1; size < 30; size++) {
            byte[] bytes = Check.join(Check.lowFirst(size, 4), inside, Check.bytes(0));
            right("size", bytes, size == bytes.length ? 1 : -1);
        }
        wrong("negative size", Check.lowFirst(0x8000000CL, 4), inside, Check.bytes(0));
        wrong("size in another order", Check.bytes(0, 0, 0, 5, 0));
        wrong("bytes behind the document", Check.encode(Check.doc()), Check.bytes(0));
        wrong("four bytes", Check.bytes(4, 0, 0, 0));
        wrong("one byte", Check.bytes(1));
        for (int size = -1; size < 30; size++) {
            byte[] inner = Check.join(Check.lowFirst(size, 4), inside, Check.bytes(0));
            byte[] bytes = Check.nest(Check.element(3, "d", inner), Check.element(16, "z", WHOLE));
            right("size of an inner document", bytes, size == inner.length ? 2 : -1);
        }
        wrong("inner size MAX", Check.nest(Check.element(3, "d", Check.join(Check.lowFirst(Integer.MAX_VALUE, 4),
                Check.bytes(0)))));
        wrong("inner size MIN", Check.nest(Check.element(3, "d", Check.join(Check.lowFirst(Integer.MIN_VALUE, 4),
                Check.bytes(0)))));
        wrong("inner document that takes the outer 0", Check.lowFirst(12, 4), Check.element(3, "d",
                Check.bytes(5, 0, 0, 0, 0)));
    }

    private static void closingZeros() {
        wrong("no 0 at the end", Check.bytes(5, 0, 0, 0, 1));
        wrong("another kind at the end", Check.bytes(5, 0, 0, 0, 10));
        wrong("two zeros", Check.bytes(6, 0, 0, 0, 0, 0));
        wrong("a 0 between elements", Check.nest(Check.element(10, "a", Check.bytes()), Check.bytes(0),
                Check.element(10, "b", Check.bytes())));
        wrong("no 0 at the end of an inner document",
                Check.nest(Check.element(3, "d", Check.bytes(5, 0, 0, 0, 1))));
        wrong("no 0 at the end of a row", Check.nest(Check.element(4, "d", Check.bytes(5, 0, 0, 0, 1))));
    }

    private static void kinds() {
        for (int kind = 0; kind < 256; kind++) {
            right("kind " + kind + " without bytes", Check.nest(Check.element(kind, "a", Check.bytes())),
                    kind == 10 ? 1 : -1);
            right("kind " + kind + " with one byte", Check.nest(Check.element(kind, "a", Check.bytes(1))),
                    kind == 8 ? 1 : -1);
            right("kind " + kind + " with four bytes", Check.nest(Check.element(kind, "a", Check.bytes(1, 0, 0, 0))),
                    kind == 16 ? 1 : -1);
            right("kind " + kind + " with eight bytes",
                    Check.nest(Check.element(kind, "a", Check.bytes(4, 0, 0, 0, 65, 66, 67, 0))),
                    kind == 18 || kind == 2 ? 1 : -1);
            right("kind " + kind + " with five bytes", Check.nest(Check.element(kind, "a", Check.bytes(5, 0, 0, 0, 0))),
                    kind == 3 || kind == 4 ? 1 : -1);
        }
    }

    private static void numbersAndTruths() {
        for (int truth = 0; truth < 256; truth++) {
            right("truth " + truth, Check.nest(Check.element(8, "a", Check.bytes(truth))), truth <= 1 ? 1 : -1);
        }
        for (int width = 0; width < 10; width++) {
            byte[] value = Check.lowFirst(0x4141414141414141L, width);
            right("kind 16 in " + width, Check.nest(Check.element(16, "a", value)), width == 4 ? 1 : -1);
            right("kind 18 in " + width, Check.nest(Check.element(18, "a", value)), width == 8 ? 1 : -1);
        }
    }

    private static void texts() {
        right("no characters", Check.nest(Check.element(2, "a", Check.textValue(Check.bytes()))), 1);
        right("zeros in a text", Check.nest(Check.element(2, "a", Check.textValue(Check.bytes(0, 65, 0)))), 1);
        wrong("no 0 behind a text", Check.nest(Check.element(2, "a", Check.bytes(2, 0, 0, 0, 65, 66))));
        for (int n = -2; n < 12; n++) {
            byte[] value = Check.join(Check.lowFirst(n, 4), Check.utf8("abc"), Check.bytes(0));
            right("text of n " + n, Check.nest(Check.element(2, "a", value)), n == 4 ? 1 : -1);
        }
        wrong("text of n MAX", Check.nest(Check.element(2, "a", Check.join(Check.lowFirst(Integer.MAX_VALUE, 4),
                Check.bytes(0)))));
        wrong("text of n MIN", Check.nest(Check.element(2, "a", Check.join(Check.lowFirst(Integer.MIN_VALUE, 4),
                Check.bytes(0)))));
        wrong("text that takes the last 0", Check.lowFirst(12, 4), Check.element(2, "a", Check.bytes(1, 0, 0, 0)),
                Check.bytes(0));
        wrong("text that is half a character", Check.nest(Check.element(2, "a", Check.textValue(Check.bytes(0xC3)))));
    }

    private static void names() {
        right("a name without bytes", Check.encode(Check.doc("", 1)), 1);
        right("any bytes", Check.encode(Check.doc(".", 1, " ", 2, "\u0001", 3, "\u00e9\u20ac", 4, "a.b", 5)), 5);
        right("one begins the other", Check.encode(Check.doc("ab", 1, "a", 2, "", 3, "abc", 4)), 4);
        wrong("twice", Check.encode(Check.doc("a", 1, "a", 2)));
        wrong("twice without bytes", Check.encode(Check.doc("", 1, "b", 1, "", 2)));
        wrong("twice, of other kinds", Check.encode(Check.doc("a", 1, "b", 2, "c", 3, "a", null)));
        wrong("twice in an inner document", Check.encode(Check.doc("d", Check.doc("x", 1, "y", 2, "x", 3))));
        right("again in another document", Check.encode(Check.doc("a", Check.doc("a", Check.doc("a", 1)),
                "b", Check.doc("a", 1))), 2);
        wrong("no right UTF-8", Check.nest(Check.join(Check.bytes(10, 0xFF, 0))));
        wrong("half a character", Check.nest(Check.join(Check.bytes(10, 65, 0xE2, 0x82, 0))));
        wrong("no 0 behind a name", Check.bytes(8, 0, 0, 0, 10, 65, 66, 0));
        wrong("no name", Check.bytes(6, 0, 0, 0, 10, 0));
    }

    private static byte[] rowNamed(String... names) {
        byte[][] items = new byte[names.length][];
        for (int i = 0; i < names.length; i++) {
            items[i] = Check.element(10, names[i], Check.bytes());
        }
        return Check.nest(Check.element(4, "r", Check.nest(items)));
    }

    private static void rows() {
        right("no items", rowNamed(), 1);
        right("0 to 2", rowNamed("0", "1", "2"), 1);
        String[][] wrongs = {{"1"}, {""}, {"00"}, {"a"}, {"-0"}, {"+0"}, {"0", "2"}, {"0", "0"}, {"0", "01"},
            {"1", "0"}, {"0", ""}, {"0", "1", "02"}, {"0", "1", "1"}, {"0", "\u0661"}, {" 0"}, {"0", "11"}, {":"}};
        for (String[] names : wrongs) {
            wrong("names of a row " + String.join(",", names), rowNamed(names));
        }
        List<String> many = new ArrayList<>();
        for (int i = 0; i < 350; i++) {
            many.add(Integer.toString(i));
        }
        right("350 items", rowNamed(many.toArray(new String[0])), 1);
        for (int at : new int[] {9, 10, 11, 99, 100, 101, 110, 349}) {
            String[] other = many.toArray(new String[0]);
            other[at] = "0" + at;
            wrong("a 0 ahead at " + at, rowNamed(other));
            other[at] = Integer.toString(at + 1);
            wrong("one more at " + at, rowNamed(other));
            other[at] = Integer.toString(at % 10);
            right("the last digit at " + at, rowNamed(other), at < 10 ? 1 : -1);
            other[at] = at + "0";
            wrong("a 0 behind at " + at, rowNamed(other));
        }
    }

    /** Behind that many right items, one that bears each byte, alone and ahead of the right digits' end. */
    private static void namesOfItems() {
        for (int number : new int[] {0, 1, 9, 10, 11, 17, 52, 79, 99, 100, 109, 110, 111, 199, 200}) {
            String digits = Integer.toString(number);
            for (char c = 1; c < 128; c++) {
                for (int kept = 0; kept <= digits.length(); kept++) {
                    itemNamed(number, c + digits.substring(digits.length() - kept));
                    itemNamed(number, digits.substring(0, kept) + c);
                }
            }
        }
    }

    private static void itemNamed(int number, String last) {
        String[] names = new String[number + 1];
        for (int i = 0; i < number; i++) {
            names[i] = Integer.toString(i);
        }
        names[number] = last;
        right("item " + number + " named " + last, rowNamed(names), last.equals(Integer.toString(number)) ? 1 : -1);
    }

    private static Object nested(int deep, boolean rows) {
        Object inner = rows ? Check.row() : Check.doc();
        for (int i = 1; i < deep; i++) {
            inner = rows ? Check.row(inner) : Check.doc("d", inner);
        }
        return inner;
    }

    private static void depth() {
        right("15 in one", Check.encode(Check.doc("a", nested(15, false))), 1);
        wrong("16 in one", Check.encode(Check.doc("a", nested(16, false))));
        right("15 rows in one", Check.encode(Check.doc("a", nested(15, true), "b", 1)), 2);
        wrong("16 rows in one", Check.encode(Check.doc("a", nested(16, true), "b", 1)));
        wrong("100 in one", Check.encode(Check.doc("a", nested(100, false))));
        wrong("200 rows in one", Check.encode(Check.doc("a", nested(200, true))));
        right("15 and 15 in one", Check.encode(Check.doc("a", nested(15, false), "b", nested(15, true))), 2);
    }

    /** The edges of each length, as a text and as a name. */
    private static void utf8Characters() {
        int[][] rights = {{0x7F}, {0xC2, 0x80}, {0xDF, 0xBF}, {0xE0, 0xA0, 0x80}, {0xED, 0x9F, 0xBF},
            {0xEE, 0x80, 0x80}, {0xEF, 0xBF, 0xBF}, {0xF0, 0x90, 0x80, 0x80}, {0xF4, 0x8F, 0xBF, 0xBF},
            {0x41, 0xC3, 0xA9, 0x42, 0xE2, 0x82, 0xAC}};
        int[][] wrongs = {{0x80}, {0xBF}, {0xC0, 0x80}, {0xC1, 0xBF}, {0xC2}, {0xC2, 0x41}, {0xC2, 0xC2, 0x80},
            {0xE0, 0x9F, 0xBF}, {0xE0, 0x80, 0x80}, {0xED, 0xA0, 0x80}, {0xED, 0xBF, 0xBF}, {0xE2, 0x82},
            {0xE2, 0x41, 0x80}, {0xE2, 0x82, 0x41}, {0xF0, 0x8F, 0xBF, 0xBF}, {0xF4, 0x90, 0x80, 0x80},
            {0xF5, 0x80, 0x80, 0x80}, {0xF7, 0xBF, 0xBF, 0xBF}, {0xF8, 0x88, 0x80, 0x80, 0x80}, {0xFE}, {0xFF},
            {0xF0, 0x90, 0x80}, {0xF0, 0x90, 0x80, 0x41}, {0x41, 0x80}, {0xC3, 0xA9, 0xA9},
            {0xFC, 0x84, 0x80, 0x80, 0x80, 0x80}};
        for (int[] character : rights) {
            character(character, 1);
        }
        for (int[] character : wrongs) {
            character(character, -1);
        }
    }

    private static void character(int[] character, int want) {
        byte[] bytes = Check.bytes(character);
        right("text", Check.nest(Check.element(2, "a", Check.textValue(bytes))), want);
        right("name", Check.nest(Check.join(Check.bytes(10), bytes, Check.bytes(0))), want);
    }

    /** How many elements of the outermost document are whole before that byte; -1 when it cuts one. */
    private static int elementsThatEndAt(byte[] bytes, int at) {
        int[] ends = {11, 23, 42, bytes.length - 1};
        for (int k = 0; k < ends.length; k++) {
            if (ends[k] == at) {
                return k + 1;
            }
        }
        return -1;
    }

    private static void cutDocuments() {
        byte[] bytes = Check.encode(Check.doc("a", 1, "t", "text", "d", Check.doc("x", 1L), "r", Check.row(true, null)));
        for (int length = 0; length < bytes.length; length++) {
            byte[] cut = Arrays.copyOf(bytes, length);
            wrong("cut at " + length, cut);
            if (length > 5) {
                cut[0] = (byte) length;
                cut[length - 1] = 0;
                right("cut at " + length + ", of the right size", cut, elementsThatEndAt(bytes, length - 1));
            }
        }
    }
}
