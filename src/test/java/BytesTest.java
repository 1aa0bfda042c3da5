import java.util.Arrays;

/** Promise 3: each bound of the bytes of a document but names and UTF-8, in the order of the document's words. */
public final class BytesTest {
    private static final byte[] WHOLE = Check.lowFirst(7, 4);

    public static void main(String[] args) {
        sizes();
        mostBytes();
        bytesBehind();
        innerSizes();
        closingZeros();
        elementInPlaceOfZero();
        kinds();
        numbersAndTruths();
        texts();
        lengthsOfTexts();
        depth();
        cutDocuments();
        Check.end();
    }

    private static void right(String what, byte[] bytes, int want) {
        Check.reads(what, bytes, want);
    }

    private static void wrong(String what, byte[]... parts) {
        Check.reads(what, Check.join(parts), -1);
    }

    /** "its SIZE (4 bytes; it counts all of it, itself and the last 0)", of the whole document. */
    private static void sizes() {
        for (int length : new int[] {5, 12, 13, 14, 127, 128, 255, 256, 257, 511, 512, 1999, 2000}) {
            byte[] bytes = ofLength(length);
            int elements = length == 5 ? 0 : 1;
            Check.due("bytes", bytes.length, length);
            right("a document of " + length, bytes, elements);
            for (int other : new int[] {-5, -4, -1, 1, 4, 5, 256, -256, 65536, 1 << 24, 1 << 31, -2 * length}) {
                right("of " + length + ", the size " + other + " more", resized(bytes, length + other), -1);
            }
            for (int size : new int[] {0, 1, 4, -1, 2001, Integer.MAX_VALUE, Integer.MIN_VALUE}) {
                right("of " + length + ", the size " + size, resized(bytes, size), -1);
            }
        }
        for (int size = -1; size < 30; size++) {
            right("size", resized(ofLength(12), size), size == 12 ? 1 : -1);
        }
        wrong("size in another order", Check.bytes(0, 0, 0, 5, 0));
        for (int length = 0; length < 5; length++) {
            byte[] few = Check.lowFirst(length, length);
            right("less bytes than a size and a 0: " + length, few, -1);
        }
    }

    /** A document of that many bytes: none, a number or a text is in it. */
    private static byte[] ofLength(int length) {
        if (length < 13) {
            return length == 5 ? Check.nest() : Check.nest(Check.element(16, "a", WHOLE));
        }
        return Check.nest(Check.element(2, "t", Check.textValue(Check.utf8("x".repeat(length - 13)))));
    }

    private static byte[] resized(byte[] bytes, int size) {
        byte[] made = bytes.clone();
        System.arraycopy(Check.lowFirst(size, 4), 0, made, 0, 4);
        return made;
    }

    /** "A document has at most 2,000 bytes": 1,999 and 2,000 are read; of 2,001 the tape holds no more than these. */
    private static void mostBytes() {
        right("1,999 bytes", ofLength(1999), 1);
        right("2,000 bytes", ofLength(2000), 1);
        ValueOrder x = new ValueOrder();
        Check.due("2,001 bytes", Check.readBytes(x, 0, ofLength(2001)), -2);
        Check.due("their first 2,000", x.read(0, 2000), -1);
        right("the size 2,001 of 2,000 bytes", resized(ofLength(2000), 2001), -1);
    }

    /** "the last 0": no byte more, none less, and no other byte. */
    private static void bytesBehind() {
        byte[] bytes = ofLength(12);
        for (int more = 0; more < 256; more++) {
            wrong("a byte behind it: " + more, bytes, Check.bytes(more));
            wrong("a byte behind it that the size counts: " + more, resized(bytes, 13), Check.bytes(more));
        }
        right("the last byte left out", Arrays.copyOf(bytes, 11), -1);
        right("the last byte left out, the size being right", resized(Arrays.copyOf(bytes, 11), 11), -1);
    }

    /** Inside a document both kinds of nests, and an element behind them. */
    private static void innerSizes() {
        for (int kind : new int[] {3, 4}) {
            byte[] inner = Check.nest(Check.element(16, "0", WHOLE));
            for (int size = -1; size < 40; size++) {
                byte[] bytes = Check.nest(Check.element(kind, "d", resized(inner, size)), Check.element(16, "z", WHOLE));
                right("inner size " + size, bytes, size == inner.length ? 2 : -1);
                byte[] last = Check.nest(Check.element(kind, "d", resized(inner, size)));
                right("inner size at the end " + size, last, size == inner.length ? 1 : -1);
            }
            for (int size : new int[] {Integer.MAX_VALUE, Integer.MIN_VALUE, -12, 12 + 256, 12 + 65536, 12 + (1 << 24)}) {
                right("inner size " + size, Check.nest(Check.element(kind, "d", resized(inner, size))), -1);
            }
            wrong("an inner one that takes the outer 0", Check.lowFirst(12, 4),
                    Check.element(kind, "d", Check.bytes(5, 0, 0, 0, 0)));
            for (int length = 0; length < 5; length++) {
                byte[] few = Arrays.copyOf(Check.bytes(5, 0, 0, 0, 0), length);
                wrong("an inner one of " + length, Check.nest(Check.element(kind, "d", few)));
            }
        }
    }

    /** "a byte 0" at the end of a document, of one inside it, of a row and of a text. */
    private static void closingZeros() {
        for (int last = 0; last < 256; last++) {
            byte[] end = Check.bytes(last);
            int want = last == 0 ? 1 : -1;
            byte[] nest = Check.join(Check.lowFirst(12, 4), Check.element(16, "0", WHOLE), end);
            right("at the end: " + last, nest, want);
            right("at a document's end: " + last, Check.nest(Check.element(3, "d", nest)), want);
            right("at a row's end: " + last, Check.nest(Check.element(4, "d", nest)), want);
            byte[] text = Check.join(Check.lowFirst(3, 4), Check.utf8("ab"), end);
            right("at a text's end: " + last, Check.nest(Check.element(2, "d", text)), want);
            right("without elements: " + last, Check.join(Check.lowFirst(5, 4), end), last == 0 ? 0 : -1);
        }
        wrong("two zeros", Check.bytes(6, 0, 0, 0, 0, 0));
        wrong("a 0 between elements", Check.nest(Check.element(10, "a", Check.bytes()), Check.bytes(0),
                Check.element(10, "b", Check.bytes())));
    }

    /** The byte where the 0 should be is the next element's kind: that element does not stand in for the 0. */
    private static void elementInPlaceOfZero() {
        byte[] next = Check.element(10, "x", Check.bytes());
        byte[] number = Check.element(16, "0", WHOLE);
        for (int kind : new int[] {3, 4}) {
            byte[] empty = Check.lowFirst(5, 4);
            byte[] filled = Check.join(Check.lowFirst(12, 4), number);
            wrong("behind a nest without any", Check.nest(Check.element(kind, "d", empty), next));
            wrong("behind a nest with one", Check.nest(Check.element(kind, "d", filled), next));
            wrong("in a nest", Check.nest(Check.element(3, "d", Check.nest(Check.element(kind, "e", empty), next))));
            right("with its 0", Check.nest(Check.element(kind, "d", Check.join(filled, Check.bytes(0))), next), 2);
            wrong("a size that leaves the 0 out", Check.nest(Check.element(kind, "d", Check.lowFirst(4, 4)), next));
            wrong("a size that leaves the 0 out", Check.nest(Check.element(kind, "d", resized(filled, 11)), next));
        }
        byte[] text = Check.join(Check.lowFirst(3, 4), Check.utf8("ab"));
        wrong("behind a text", Check.nest(Check.element(2, "t", text), next));
        wrong("behind a text without bytes", Check.nest(Check.element(2, "t", Check.lowFirst(1, 4)), next));
        wrong("an n that leaves the 0 out", Check.nest(Check.element(2, "t", resized(text, 2)), next));
        wrong("an n of 0", Check.nest(Check.element(2, "t", Check.lowFirst(0, 4)), next));
        right("with its 0", Check.nest(Check.element(2, "t", Check.join(text, Check.bytes(0))), next), 2);
    }

    private static void kinds() {
        for (int kind = 0; kind < 256; kind++) {
            right("kind " + kind + " without bytes", Check.nest(Check.element(kind, "a", Check.bytes())),
                    kind == 10 ? 1 : -1);
            right("kind " + kind + " with one byte", Check.nest(Check.element(kind, "a", Check.bytes(1))),
                    kind == 8 ? 1 : -1);
            right("kind " + kind + " with four bytes", Check.nest(Check.element(kind, "a", Check.bytes(1, 0, 0, 0))),
                    kind == 16 ? 1 : -1);
            right("kind " + kind + " with eight bytes",
                    Check.nest(Check.element(kind, "a", Check.bytes(4, 0, 0, 0, 65, 66, 67, 0))),
                    kind == 18 || kind == 2 ? 1 : -1);
            right("kind " + kind + " with five bytes", Check.nest(Check.element(kind, "a", Check.bytes(5, 0, 0, 0, 0))),
                    kind == 3 || kind == 4 ? 1 : -1);
        }
    }

    private static void numbersAndTruths() {
        for (int truth = 0; truth < 256; truth++) {
            right("truth " + truth, Check.nest(Check.element(8, "a", Check.bytes(truth))), truth <= 1 ? 1 : -1);
        }
        for (int width = 0; width < 10; width++) {
            byte[] value = Check.lowFirst(0x4141414141414141L, width);
            right("kind 16 in " + width, Check.nest(Check.element(16, "a", value)), width == 4 ? 1 : -1);
            right("kind 18 in " + width, Check.nest(Check.element(18, "a", value)), width == 8 ? 1 : -1);
        }
    }

    private static byte[] textOf(byte[] value) {
        return Check.nest(Check.element(2, "a", value));
    }

    /** "n (4 bytes, at least 1), n - 1 bytes of right UTF-8 (0 may be among them), a byte 0". */
    private static void texts() {
        right("n is 1: no characters", textOf(Check.bytes(1, 0, 0, 0, 0)), 1);
        wrong("n is 0", textOf(Check.bytes(0, 0, 0, 0, 0)));
        wrong("n is 0, no byte", textOf(Check.bytes(0, 0, 0, 0)));
        right("n is 2", textOf(Check.bytes(2, 0, 0, 0, 65, 0)), 1);
        for (int[] zeros : new int[][] {{0}, {0, 0}, {0, 65}, {65, 0}, {65, 0, 66}, {0, 65, 0}}) {
            right("a 0 among them", textOf(Check.textValue(Check.bytes(zeros))), 1);
        }
        wrong("n less by one, where a 0 stands", textOf(Check.bytes(2, 0, 0, 0, 65, 0, 0)));
        wrong("no 0 behind a text", textOf(Check.bytes(2, 0, 0, 0, 65, 66)));
        for (int n = -2; n < 12; n++) {
            byte[] value = Check.join(Check.lowFirst(n, 4), Check.utf8("abc"), Check.bytes(0));
            right("text of n " + n, textOf(value), n == 4 ? 1 : -1);
        }
        for (int n : new int[] {Integer.MAX_VALUE, Integer.MIN_VALUE, Integer.MIN_VALUE + 4, -4, 4 + 256, 4 + 65536}) {
            byte[] value = Check.join(Check.lowFirst(n, 4), Check.utf8("abc"), Check.bytes(0));
            wrong("text of n " + n, textOf(value));
        }
        wrong("text that takes the last 0", Check.lowFirst(12, 4), Check.element(2, "a", Check.bytes(1, 0, 0, 0)),
                Check.bytes(0));
        for (int length = 0; length < 5; length++) {
            wrong("text of " + length + " bytes in all", textOf(Arrays.copyOf(Check.bytes(1, 0, 0, 0, 0), length)));
        }
        wrong("text that is half a character", textOf(Check.textValue(Check.bytes(0xC3))));
    }

    private static void lengthsOfTexts() {
        for (int length : new int[] {0, 1, 2, 126, 127, 128, 254, 255, 256, 257, 511, 512, 1986, 1987}) {
            byte[] value = Check.textValue(Check.utf8("x".repeat(length)));
            right("a text of " + length, Check.nest(Check.element(2, "t", value)), 1);
            byte[] more = Check.join(Check.lowFirst(length + 2, 4), Arrays.copyOfRange(value, 4, value.length));
            right("one more than a text of " + length, Check.nest(Check.element(2, "t", more)), -1);
            byte[] less = Check.join(Check.lowFirst(length, 4), Arrays.copyOfRange(value, 4, value.length));
            right("one less than a text of " + length, Check.nest(Check.element(2, "t", less)), -1);
        }
    }

    /** A nest that lies that deep, counted from itself; each is a document or a row by its bit. */
    private static Object nested(int deep, int rows, Object innermost) {
        Object inner = innermost;
        for (int i = deep - 1; i >= 0; i--) {
            boolean row = (rows >> i & 1) == 1;
            if (i == deep - 1 && innermost == null) {
                inner = row ? Check.row() : Check.doc();
            } else {
                inner = row ? Check.row(inner) : Check.doc("d", inner);
            }
        }
        return inner;
    }

    /** "at most 16 deep, the outermost one being 1 deep": 15, 16 and 17, of documents, rows and both in turn. */
    private static void depth() {
        int[] mixes = {0, -1, 0x5555, 0xAAAA, 1, 0x7FFF, 0x8000, 0x4000};
        for (int rows : mixes) {
            for (int deep = 13; deep < 20; deep++) {
                int want = 1 + deep <= 16 ? 1 : -1;
                right(deep + " in one", Check.encode(Check.doc("a", nested(deep, rows, null))), want);
                right(deep + " with a number in them", Check.encode(Check.doc("a", nested(deep, rows, 7))), want);
                right(deep + " behind others", Check.encode(Check.doc("a", nested(15, 0, null), "b", nested(15, -1, 7), "c",
                        nested(deep, rows, null))), want == 1 ? 3 : -1);
            }
            Object twice = Check.row(nested(14, rows, 1), nested(14, rows, null));
            right("14 in a row in one, twice", Check.encode(Check.doc("a", twice)), 1);
            wrong("100 in one", Check.encode(Check.doc("a", nested(100, rows, null))));
            wrong("200 in one", Check.encode(Check.doc("a", nested(200, rows, 7))));
        }
    }

    /** How many elements of the outermost document are whole before that byte; -1 when it cuts one. */
    private static int elementsThatEndAt(byte[] bytes, int at) {
        int[] ends = {11, 23, 42, bytes.length - 1};
        for (int k = 0; k < ends.length; k++) {
            if (ends[k] == at) {
                return k + 1;
            }
        }
        return -1;
    }

    private static void cutDocuments() {
        byte[] bytes = Check.encode(Check.doc("a", 1, "t", "text", "d", Check.doc("x", 1L), "r", Check.row(true, null)));
        for (int length = 0; length < bytes.length; length++) {
            byte[] cut = Arrays.copyOf(bytes, length);
            wrong("cut at " + length, cut);
            if (length > 5) {
                cut[0] = (byte) length;
                cut[length - 1] = 0;
                right("cut at " + length + ", of the right size", cut, elementsThatEndAt(bytes, length - 1));
            }
        }
    }
}
