/** Promise 8: text, with its edge: "-1 when there is none such". */
public final class TextTest {
    public static void main(String[] args) {
        bytesWithoutSign();
        eachByteThatTextsCanHave();
        textWithoutBytes();
        textWithZeros();
        noSuchByte();
        longestText();
        noSuchValue();
        noSuchList();
        otherKinds();
        sortedList();
        changesNothing();
        Check.end();
    }

    private static ValueOrder listed(int which, Object value) {
        ValueOrder x = new ValueOrder();
        Check.due("read", Check.readDoc(x, 0, Check.doc("a", value)), 1);
        Check.takePath(x, "a");
        Check.due("list", x.list(which, 0, false), 1);
        return x;
    }

    private static void whole(String text) {
        byte[] bytes = Check.utf8(text);
        for (int which = 0; which < 2; which++) {
            ValueOrder x = listed(which, text);
            for (int i = 0; i < bytes.length; i++) {
                Check.due("byte " + i, x.text(which, 0, i), bytes[i] & 255);
            }
            Check.due("before the first byte", x.text(which, 0, -1), -1);
            Check.due("behind the last byte", x.text(which, 0, bytes.length), -1);
            Check.due("two behind the last byte", x.text(which, 0, bytes.length + 1), -1);
        }
    }

    private static void bytesWithoutSign() {
        whole("a");
        whole("a\u0000\u007f\u00e9\u20ac\ud83d\ude00");
        ValueOrder x = listed(0, "\u007f\u0080\udbff\udfff");
        int[] want = {0x7F, 0xC2, 0x80, 0xF4, 0x8F, 0xBF, 0xBF};
        for (int i = 0; i < want.length; i++) {
            Check.due("byte " + i, x.text(0, 0, i), want[i]);
        }
    }

    private static void eachByteThatTextsCanHave() {
        for (int first = 0; first < 0x800; first += 64) {
            StringBuilder text = new StringBuilder();
            for (int character = first; character < first + 64; character++) {
                text.append((char) character);
            }
            whole(text.toString());
        }
        for (int character = 0x800; character < 0x10FFFF; character += 0x5FF) {
            if (character < 55296 || character > 57343) {
                whole(new String(Character.toChars(character)));
            }
        }
    }

    private static void textWithoutBytes() {
        ValueOrder x = listed(1, "");
        for (int i : new int[] {-1, 0, 1, Integer.MAX_VALUE, Integer.MIN_VALUE}) {
            Check.due("byte " + i + " of none", x.text(1, 0, i), -1);
        }
        Check.due("it is a text", x.value(1, 0, 0), 2);
        Check.due("of no bytes", x.value(1, 0, 3), 0);
    }

    /** A 0 is a byte like others: it is answered, and it ends nothing. */
    private static void textWithZeros() {
        for (String text : new String[] {"\u0000", "\u0000a", "a\u0000", "a\u0000b", "\u0000\u0000", "\u0000\u00e9\u0000"}) {
            whole(text);
            Check.due("its bytes", listed(0, text).value(0, 0, 3), Check.utf8(text).length);
        }
        Check.due("a 0", listed(0, "a\u0000b").text(0, 0, 1), 0);
        Check.due("behind a 0", listed(0, "a\u0000b").text(0, 0, 2), 'b');
    }

    private static void noSuchByte() {
        ValueOrder x = listed(0, "abc");
        for (int i : new int[] {-1, -2, -3, 3, 4, 5, 255, 256, 65536, Integer.MAX_VALUE, Integer.MIN_VALUE}) {
            Check.due("byte " + i, x.text(0, 0, i), -1);
        }
        Check.due("the first", x.text(0, 0, 0), 'a');
        Check.due("the last", x.text(0, 0, 2), 'c');
    }

    private static void longestText() {
        ValueOrder x = listed(1, "x".repeat(1986) + "y");
        Check.due("the last but one", x.text(1, 0, 1985), 'x');
        Check.due("the last", x.text(1, 0, 1986), 'y');
        Check.due("behind the last", x.text(1, 0, 1987), -1);
        Check.due("2,000", x.text(1, 0, 2000), -1);
    }

    /** A row, two texts and a number. */
    private static ValueOrder four(int which) {
        ValueOrder x = listed(which, Check.row("tu", "v", 9));
        Check.due("list", x.list(which, 0, true), 4);
        return x;
    }

    private static void noSuchValue() {
        for (int which = 0; which < 2; which++) {
            ValueOrder x = four(which);
            for (int k : new int[] {-1, -2, 4, 5, 499, 500, 501, Integer.MAX_VALUE, Integer.MIN_VALUE}) {
                Check.due("byte 0 of value " + k, x.text(which, k, 0), -1);
                Check.due("byte 1 of value " + k, x.text(which, k, 1), -1);
            }
            Check.due("value 1", x.text(which, 1, 1), 'u');
            Check.due("value 2", x.text(which, 2, 0), 'v');
            Check.due("value 2", x.text(which, 2, 1), -1);
            Check.due("of the other list", x.text(1 - which, 1, 0), -1);
        }
    }

    private static void noSuchList() {
        ValueOrder x = four(0);
        x.list(1, 0, true);
        for (int which : new int[] {-1, -2, 2, 3, Integer.MAX_VALUE, Integer.MIN_VALUE}) {
            Check.due("of list " + which, x.text(which, 1, 0), -1);
            Check.due("of list " + which, x.text(which, 0, 0), -1);
        }
        Check.due("of list 0", x.text(0, 1, 0), 't');
        Check.due("of list 1", x.text(1, 1, 0), 't');
    }

    private static void otherKinds() {
        Object[] others = {1, 0x41414141, 1L, 0L, true, false, null, Check.doc(), Check.doc("x", "text"), Check.row(),
            Check.row("text")};
        for (Object other : others) {
            ValueOrder x = listed(1, other);
            for (int i = -1; i < 6; i++) {
                Check.due("text of " + other, x.text(1, 0, i), -1);
            }
        }
        ValueOrder x = listed(0, 1);
        Check.takePath(x, "b");
        x.list(0, 0, false);
        Check.due("text of MISSING", x.text(0, 0, 0), -1);
    }

    private static void sortedList() {
        ValueOrder x = listed(0, Check.row("c", "ab", "a"));
        x.list(0, 0, true);
        x.sort(0);
        Check.due("the least", x.text(0, 0, 0), 'a');
        Check.due("it has one byte", x.text(0, 0, 1), -1);
        Check.due("the second", x.text(0, 1, 1), 'b');
        Check.due("the third", x.text(0, 2, 0), 'c');
        Check.due("the row", x.text(0, 3, 0), -1);
    }

    private static void changesNothing() {
        for (int i = -1; i < 6; i++) {
            int asked = i;
            State.stays("text(0, 3, ..)", State::busy, x -> x.text(0, 3, asked));
            State.stays("text(1, 1, ..)", State::busy, x -> x.text(1, 1, asked));
            State.stays("text(2, 0, ..)", State::busy, x -> x.text(2, 0, asked));
        }
    }
}
