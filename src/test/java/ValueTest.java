/** Promises 7 and 8: value and text. */
public final class ValueTest {
    private static final int[] NONE = {-1, 9, 10, 500, Integer.MAX_VALUE, Integer.MIN_VALUE};

    public static void main(String[] args) {
        ofEachKind();
        ofMissing();
        edgesOfNumbers();
        noSuchValues();
        bytesOfTexts();
        textsOfOtherKinds();
        Check.end();
    }

    private static ValueOrder listed(int which, Object value) {
        ValueOrder x = new ValueOrder();
        Check.readDoc(x, 0, Check.doc("a", value));
        Check.takePath(x, "a");
        Check.due("list", x.list(which, 0, false), 1);
        return x;
    }

    private static void four(Object value, long kind, long rank, long number, long count) {
        for (int which = 0; which < 2; which++) {
            ValueOrder x = listed(which, value);
            Check.due("kind of " + value, x.value(which, 0, 0), kind);
            Check.due("class of " + value, x.value(which, 0, 1), rank);
            Check.due("number of " + value, x.value(which, 0, 2), number);
            Check.due("count of " + value, x.value(which, 0, 3), count);
            for (int what : new int[] {-1, 4, 5, Integer.MAX_VALUE, Integer.MIN_VALUE}) {
                Check.due("no such what of " + value, x.value(which, 0, what), -1);
            }
        }
    }

    private static void ofEachKind() {
        four(7, 16, 2, 7, 0);
        four(7L, 18, 2, 7, 0);
        four(true, 8, 6, 1, 0);
        four(false, 8, 6, 0, 0);
        four(null, 10, 1, 0, 0);
        four("", 2, 3, 0, 0);
        four("abc", 2, 3, 0, 3);
        four("\u00e9\u20ac\u0000", 2, 3, 0, 6);
        four(Check.doc(), 3, 4, 0, 0);
        four(Check.doc("x", 1, "y", Check.doc("z", 1, "w", 2)), 3, 4, 0, 2);
        four(Check.row(), 4, 5, 0, 0);
        four(Check.row(1, 2, Check.row(3, 4)), 4, 5, 0, 3);
    }

    private static void ofMissing() {
        ValueOrder x = listed(0, 1);
        Check.takePath(x, "b");
        x.list(1, 0, false);
        for (int what = 0; what < 4; what++) {
            Check.due("of MISSING " + what, x.value(1, 0, what), 0);
        }
        Check.due("of MISSING 4", x.value(1, 0, 4), -1);
        Check.due("text of MISSING", x.text(1, 0, 0), -1);
    }

    private static void edgesOfNumbers() {
        four(-1, 16, 2, -1, 0);
        four(Integer.MIN_VALUE, 16, 2, Integer.MIN_VALUE, 0);
        four(Integer.MAX_VALUE, 16, 2, Integer.MAX_VALUE, 0);
        four(0x81020304, 16, 2, 0x81020304, 0);
        four(-1L, 18, 2, -1, 0);
        four(Long.MIN_VALUE, 18, 2, Long.MIN_VALUE, 0);
        four(Long.MAX_VALUE, 18, 2, Long.MAX_VALUE, 0);
        four(0xFFFFFFFFL, 18, 2, 0xFFFFFFFFL, 0);
        four(0x8877665544332211L, 18, 2, 0x8877665544332211L, 0);
    }

    private static void noSuchValues() {
        ValueOrder x = listed(0, Check.row(5, "t"));
        x.list(0, 0, true);
        for (int none : NONE) {
            Check.due("no such value", x.value(0, none, 0), -1);
            Check.due("no such list", x.value(none, 0, 0), -1);
            Check.due("no such text", x.text(0, none, 0), -1);
            Check.due("no such list", x.text(none, 0, 0), -1);
            Check.due("no such byte", x.text(0, 2, none), -1);
        }
        Check.due("no such list", x.value(2, 0, 0), -1);
        Check.due("no such list", x.text(2, 2, 0), -1);
        Check.due("behind the last", x.value(0, 3, 0), -1);
        Check.due("the other list", x.value(1, 0, 0), -1);
        Check.due("text of the last", x.text(0, 2, 0), 't');
        Check.takePath(x, "a.0");
        x.list(0, 0, false);
        Check.due("a list that was longer", x.value(0, 1, 0), -1);
    }

    private static void bytesOfTexts() {
        String text = "a\u0000\u007f\u00e9\u20ac\ud83d\ude00";
        byte[] bytes = Check.utf8(text);
        for (int which = 0; which < 2; which++) {
            ValueOrder x = listed(which, text);
            for (int i = 0; i < bytes.length; i++) {
                Check.due("byte " + i, x.text(which, 0, i), bytes[i] & 255);
            }
            Check.due("behind the last byte", x.text(which, 0, bytes.length), -1);
            Check.due("before the first byte", x.text(which, 0, -1), -1);
            Check.due("byte MAX", x.text(which, 0, Integer.MAX_VALUE), -1);
            Check.due("byte MIN", x.text(which, 0, Integer.MIN_VALUE), -1);
        }
        Check.due("text without bytes", listed(0, "").text(0, 0, 0), -1);
    }

    private static void textsOfOtherKinds() {
        Object[] others = {1, 1L, true, null, Check.doc("x", "text"), Check.row("text")};
        for (Object other : others) {
            Check.due("text of " + other, listed(1, other).text(1, 0, 0), -1);
        }
    }
}
