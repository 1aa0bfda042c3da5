import java.util.ArrayList;
import java.util.List;

/** Promise 3 again: right documents with one byte changed to every other, against the model. */
public final class ChangedBytesTest {
    public static void main(String[] args) {
        changeEachByte(Check.encode(Check.doc()));
        changeEachByte(Check.encode(Check.doc("a", 1, "b", 2L, "c", true, "d", null)));
        changeEachByte(Check.encode(Check.doc("", "", "t", "text", "\u00e9", "\u20ac\u0000\ud83d\ude00")));
        changeEachByte(Check.encode(Check.doc("d", Check.doc("x", Check.doc("y", 1), "z", Check.doc()), "e", null)));
        changeEachByte(Check.encode(Check.doc("r", Check.row(Check.row(null, 1), Check.doc("0", "a"), Check.row()))));
        changeEachByte(Check.encode(Check.doc("r", nothings(12))));
        changeEachByte(Check.encode(Check.doc("r", nothings(112))));
        Check.end();
    }

    private static List<Object> nothings(int count) {
        List<Object> made = new ArrayList<>();
        for (int i = 0; i < count; i++) {
            made.add(null);
        }
        return made;
    }

    private static void changeEachByte(byte[] bytes) {
        for (int at = 0; at < bytes.length; at++) {
            byte[] changed = bytes.clone();
            for (int other = 0; other < 256; other++) {
                changed[at] = (byte) other;
                ValueOrder x = new ValueOrder();
                Check.due("byte " + at + " of " + bytes.length + " being " + other,
                        Check.readBytes(x, 0, changed), Model.elementsIn(changed));
            }
        }
    }
}
