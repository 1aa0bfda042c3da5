import java.util.Arrays;

/** Promise 2: feed. */
public final class FeedTest {
    public static void main(String[] args) {
        bytesComeHighestFirst();
        bytesComeBehindOthers();
        moreThanTwoThousandAreRefused();
        Check.end();
    }

    private static void bytesComeHighestFirst() {
        ValueOrder x = new ValueOrder();
        // Sixteen bytes: the size, kind 18, name "n", 0, eight bytes of which each is another, 0.
        Check.due("feed", x.feed(0x10000000, 0x126E0088, 0x07060504, 0x03028100, 0xFFFFFFFF), 20);
        Check.due("read", x.read(0, 16), 1);
        Check.takePath(x, "n");
        x.list(0, 0, false);
        Check.due("number", x.value(0, 0, 2), 0x8102030405060788L);
    }

    private static void bytesComeBehindOthers() {
        ValueOrder x = new ValueOrder();
        byte[] bytes = Check.encode(Check.doc("text", "0123456789abcdefghijklmnopqrstuvwxyz"));
        for (int start = 0; start < bytes.length; start += 20) {
            int[] n = Check.numbersAt(bytes, start);
            Check.due("feed", x.feed(n[0], n[1], n[2], n[3], n[4]), start + 20);
        }
        Check.due("read", x.read(2, bytes.length), 1);
        Check.takePath(x, "text");
        x.list(1, 2, false);
        for (int i = 0; i < 36; i++) {
            Check.due("text", x.text(1, 0, i), "0123456789abcdefghijklmnopqrstuvwxyz".charAt(i));
        }
        Check.due("feed behind a path", x.feed(0, 0, 0, 0, 0), 20);
    }

    private static void moreThanTwoThousandAreRefused() {
        ValueOrder x = new ValueOrder();
        byte[] text = new byte[2000 - 5 - 3 - 5];
        Arrays.fill(text, (byte) 'x');
        byte[] bytes = Check.nest(Check.element(2, "t", Check.textValue(text)));
        Check.due("length of the longest document", bytes.length, 2000);
        Check.feedAll(x, bytes);
        Check.due("feed beyond 2000", x.feed(-1, -1, -1, -1, -1), -1);
        Check.due("feed beyond 2000", x.feed(-1, -1, -1, -1, -1), -1);
        Check.due("read of more than there are", x.read(0, 2001), -2);
        Check.due("read", x.read(0, 2000), 1);
        Check.takePath(x, "t");
        x.list(0, 0, false);
        Check.due("last byte of the longest document", x.text(0, 0, text.length - 1), 'x');
        ValueOrder y = new ValueOrder();
        for (int i = 1; i <= 100; i++) {
            Check.due("feed", y.feed(i, i, i, i, i), 20 * i);
        }
        Check.due("feed", y.feed(0, 0, 0, 0, 0), -1);
    }
}
