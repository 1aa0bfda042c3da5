import java.util.List;

/** Promise 7: value, with its edge: "-1 when there is none such". */
public final class ValueTest {
    public static void main(String[] args) {
        ofEachKind();
        ofMissing();
        edgesOfNumbers();
        counts();
        noSuchList();
        noSuchValue();
        noSuchWhat();
        emptyList();
        listThatBecameShorter();
        sortedList();
        longestList();
        changesNothing();
        Check.end();
    }

    private static ValueOrder listed(int which, Object value) {
        ValueOrder x = new ValueOrder();
        Check.due("read", Check.readDoc(x, 0, Check.doc("a", value)), 1);
        Check.takePath(x, "a");
        Check.due("list", x.list(which, 0, false), 1);
        return x;
    }

    private static void four(Object value, long kind, long rank, long number, long count) {
        for (int which = 0; which < 2; which++) {
            ValueOrder x = listed(which, value);
            Check.due("kind of " + value, x.value(which, 0, 0), kind);
            Check.due("class of " + value, x.value(which, 0, 1), rank);
            Check.due("number of " + value, x.value(which, 0, 2), number);
            Check.due("count of " + value, x.value(which, 0, 3), count);
            for (int what : new int[] {-1, -2, 4, 5, 8, 16, Integer.MAX_VALUE, Integer.MIN_VALUE}) {
                Check.due("no such what of " + value, x.value(which, 0, what), -1);
            }
        }
    }

    private static void ofEachKind() {
        four(7, 16, 2, 7, 0);
        four(7L, 18, 2, 7, 0);
        four(true, 8, 6, 1, 0);
        four(false, 8, 6, 0, 0);
        four(null, 10, 1, 0, 0);
        four("", 2, 3, 0, 0);
        four("abc", 2, 3, 0, 3);
        four("\u00e9\u20ac\u0000", 2, 3, 0, 6);
        four(Check.doc(), 3, 4, 0, 0);
        four(Check.doc("x", 1, "y", Check.doc("z", 1, "w", 2)), 3, 4, 0, 2);
        four(Check.row(), 4, 5, 0, 0);
        four(Check.row(1, 2, Check.row(3, 4)), 4, 5, 0, 3);
    }

    private static void ofMissing() {
        ValueOrder x = listed(0, 1);
        Check.takePath(x, "b");
        x.list(1, 0, false);
        for (int what = 0; what < 4; what++) {
            Check.due("of MISSING " + what, x.value(1, 0, what), 0);
        }
        Check.due("of MISSING 4", x.value(1, 0, 4), -1);
        Check.due("of MISSING -1", x.value(1, 0, -1), -1);
    }

    /** "both with a sign"; a number -1 is answered as it is. */
    private static void edgesOfNumbers() {
        int[] whole = {-2, -1, 0, 1, 127, 128, 255, 256, 32767, 32768, 65535, 65536, 0x7FFFFF, 0x800000, 0xFFFFFF, 0x1000000,
            Integer.MIN_VALUE, Integer.MIN_VALUE + 1, Integer.MAX_VALUE - 1, Integer.MAX_VALUE, 0x81020304, 0x01020384};
        for (int number : whole) {
            four(number, 16, 2, number, 0);
            four((long) number, 18, 2, number, 0);
        }
        long[] longs = {Long.MIN_VALUE, Long.MIN_VALUE + 1, Long.MAX_VALUE - 1, Long.MAX_VALUE, 0x7FFFFFFFL, 0x80000000L,
            0xFFFFFFFFL, 0x100000000L, -0x80000000L, -0x80000001L, 0x8877665544332211L, 0x1122334455667788L, 1L << 55, 1L << 56};
        for (long number : longs) {
            four(number, 18, 2, number, 0);
        }
    }

    /** Of texts the bytes, not the characters, of nests their own elements alone. */
    private static void counts() {
        for (int length : new int[] {0, 1, 2, 127, 128, 255, 256, 257, 1986}) {
            four("x".repeat(length), 2, 3, 0, length);
        }
        four("\udbff\udfff".repeat(400), 2, 3, 0, 1600);
        Check.Doc doc = Check.doc();
        List<Object> row = Check.row();
        for (int i = 0; i < 300; i++) {
            if (i < 3 || i > 296) {
                four(doc, 3, 4, 0, i);
                four(row, 4, 5, 0, i);
            }
            doc.with(Integer.toString(i), null);
            row.add(null);
        }
        four(Check.row(Check.doc("x", 1, "y", 2), Check.row(1, 2, 3)), 4, 5, 0, 2);
        four(Check.doc("x", Check.row(1, 2, 3)), 3, 4, 0, 1);
    }

    /** A list with a row and its two items: values 0 to 2. */
    private static ValueOrder three(int which) {
        ValueOrder x = listed(which, Check.row(5, "t"));
        Check.due("list", x.list(which, 0, true), 3);
        return x;
    }

    private static void noSuchList() {
        ValueOrder x = three(0);
        x.list(1, 0, true);
        for (int which : new int[] {-1, -2, 2, 3, Integer.MAX_VALUE, Integer.MIN_VALUE}) {
            for (int what = 0; what < 4; what++) {
                Check.due("of list " + which, x.value(which, 0, what), -1);
                Check.due("of list " + which, x.value(which, 2, what), -1);
            }
        }
        Check.due("of list 0", x.value(0, 1, 2), 5);
        Check.due("of list 1", x.value(1, 1, 2), 5);
    }

    private static void noSuchValue() {
        for (int which = 0; which < 2; which++) {
            ValueOrder x = three(which);
            for (int k : new int[] {-1, -2, 3, 4, 499, 500, 501, Integer.MAX_VALUE, Integer.MIN_VALUE}) {
                for (int what = 0; what < 4; what++) {
                    Check.due("value " + k, x.value(which, k, what), -1);
                }
            }
            Check.due("the first", x.value(which, 0, 0), 4);
            Check.due("the last", x.value(which, 2, 0), 2);
            Check.due("of the other list", x.value(1 - which, 0, 0), -1);
        }
    }

    /** 0 to 3 are there, -1 and 4 are not, at the first and the last value. */
    private static void noSuchWhat() {
        ValueOrder x = three(1);
        for (int k = 0; k < 3; k++) {
            for (int what : new int[] {-1, 4, 5, Integer.MAX_VALUE, Integer.MIN_VALUE}) {
                Check.due("what " + what, x.value(1, k, what), -1);
            }
            Check.due("class", x.value(1, k, 1), k == 0 ? 5 : k == 1 ? 2 : 3);
            Check.due("count", x.value(1, k, 3), k == 0 ? 2 : k == 1 ? 0 : 1);
        }
    }

    private static void emptyList() {
        ValueOrder x = listed(0, Check.row());
        Check.takePath(x, "a.0");
        Check.due("list", x.list(0, 0, true), 0);
        for (int what = -1; what < 5; what++) {
            Check.due("value of no value", x.value(0, 0, what), -1);
        }
    }

    private static void listThatBecameShorter() {
        ValueOrder x = three(0);
        Check.takePath(x, "a.0");
        Check.due("list", x.list(0, 0, false), 1);
        Check.due("the one", x.value(0, 0, 2), 5);
        Check.due("one that was there", x.value(0, 1, 0), -1);
        Check.due("one that was there", x.value(0, 2, 0), -1);
    }

    private static void sortedList() {
        ValueOrder x = three(1);
        x.sort(1);
        int[] kinds = {16, 2, 4};
        for (int k = 0; k < 3; k++) {
            Check.due("kind of the sorted", x.value(1, k, 0), kinds[k]);
        }
        Check.due("behind the last", x.value(1, 3, 0), -1);
        Check.due("before the first", x.value(1, -1, 0), -1);
    }

    private static void longestList() {
        ValueOrder x = new ValueOrder();
        Check.readDoc(x, 0, Many.withTail(247, 1, 77));
        Check.takePath(x, Many.PATH);
        Check.due("list", x.list(0, 0, true), 500);
        Check.due("value 498", x.value(0, 498, 0), 0);
        Check.due("value 499", x.value(0, 499, 2), 77);
        Check.due("value 500", x.value(0, 500, 2), -1);
        Check.due("value 0", x.value(0, 0, 0), 3);
    }

    private static void changesNothing() {
        for (int what = -1; what < 5; what++) {
            int asked = what;
            State.stays("value(0, 1, ..)", State::busy, x -> x.value(0, 1, asked));
            State.stays("value(1, 9, ..)", State::busy, x -> x.value(1, 9, asked));
            State.stays("value(2, 0, ..)", State::busy, x -> x.value(2, 0, asked));
        }
    }
}
