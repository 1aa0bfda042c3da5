import java.util.Arrays;

/** Promise 2: feed, with its edge: "-1, doing nothing, when there would be more than 2,000". */
public final class FeedTest {
    /** Of a document that has 2,000 bytes and one element, t, the bytes of its text. */
    private static final byte[] LONGEST_TEXT = alphabet(2000 - 4 - 3 - 4 - 1 - 1);

    public static void main(String[] args) {
        bytesComeHighestFirst();
        bytesComeBehindOthers();
        countsUpToTwoThousand();
        refusedFeedLeavesTheBytes();
        refusedFeedLeavesTheRest();
        emptyTapeTakesTwoThousandAgain();
        eachPlaceOfTheTwenty();
        Check.end();
    }

    private static void bytesComeHighestFirst() {
        ValueOrder x = new ValueOrder();
        // Sixteen bytes: the size, kind 18, name "n", 0, eight bytes of which each is another, 0.
        Check.due("feed", x.feed(0x10000000, 0x126E0088, 0x07060504, 0x03028100, 0xFFFFFFFF), 20);
        Check.due("read", x.read(0, 16), 1);
        Check.takePath(x, "n");
        x.list(0, 0, false);
        Check.due("number", x.value(0, 0, 2), 0x8102030405060788L);
    }

    private static void bytesComeBehindOthers() {
        ValueOrder x = new ValueOrder();
        byte[] bytes = Check.encode(Check.doc("text", "0123456789abcdefghijklmnopqrstuvwxyz"));
        for (int start = 0; start < bytes.length; start += 20) {
            int[] n = Check.numbersAt(bytes, start);
            Check.due("feed", x.feed(n[0], n[1], n[2], n[3], n[4]), start + 20);
        }
        Check.due("read", x.read(2, bytes.length), 1);
        Check.takePath(x, "text");
        x.list(1, 2, false);
        for (int i = 0; i < 36; i++) {
            Check.due("text", x.text(1, 0, i), "0123456789abcdefghijklmnopqrstuvwxyz".charAt(i));
        }
        Check.due("feed behind a path", x.feed(0, 0, 0, 0, 0), 20);
    }

    private static byte[] alphabet(int length) {
        byte[] made = new byte[length];
        for (int i = 0; i < length; i++) {
            made[i] = (byte) ('a' + i % 26);
        }
        return made;
    }

    private static void feedTwoThousand(ValueOrder x) {
        for (int i = 1; i <= 100; i++) {
            Check.due("feed " + i, x.feed(i, -i, i, -i, i), 20 * i);
        }
    }

    /** 1,980 and twenty are 2,000; twenty more would be more than that. */
    private static void countsUpToTwoThousand() {
        ValueOrder x = new ValueOrder();
        feedTwoThousand(x);
        for (int i = 0; i < 5; i++) {
            Check.due("feed beyond 2,000", x.feed(0, 0, 0, 0, 0), -1);
        }
        Check.due("there are no 2,001", x.read(0, 2001), -2);
        Check.due("there are 2,000", x.read(0, 2000), -1);
    }

    private static ValueOrder fedWithLongest() {
        ValueOrder x = new ValueOrder();
        byte[] bytes = Check.nest(Check.element(2, "t", Check.textValue(LONGEST_TEXT)));
        Check.due("bytes of the longest document", bytes.length, 2000);
        Check.feedAll(x, bytes);
        return x;
    }

    private static void textIsWhole(ValueOrder x, int from, int to) {
        Check.takePath(x, "t");
        Check.due("list", x.list(0, 0, false), 1);
        Check.due("length of the text", x.value(0, 0, 3), LONGEST_TEXT.length);
        for (int i = from; i < to; i++) {
            Check.due("byte " + i, x.text(0, 0, i), LONGEST_TEXT[i]);
        }
    }

    /** Each of the text's bytes is asked for once, and refused bytes are 255, 0 and letters in turn. */
    private static void refusedFeedLeavesTheBytes() {
        int[] refused = {-1, 0, 0x7A7A7A7A};
        for (int from = 0; from < LONGEST_TEXT.length; from += 380) {
            int to = Math.min(from + 380, LONGEST_TEXT.length);
            for (int number : refused) {
                ValueOrder x = fedWithLongest();
                Check.due("refused", x.feed(number, number, number, number, number), -1);
                Check.due("read", x.read(0, 2000), 1);
                textIsWhole(x, from, to);
            }
        }
    }

    private static void refusedFeedLeavesTheRest() {
        ValueOrder x = new ValueOrder();
        Check.readDoc(x, 1, Check.doc("a", 5));
        Check.takePath(x, "a");
        x.list(0, 1, false);
        feedTwoThousand(x);
        Check.due("refused", x.feed(7, 7, 7, 7, 7), -1);
        Check.due("value", x.value(0, 0, 2), 5);
        Check.due("slots", x.compare(1, 0), 1);
        Check.due("path", x.list(1, 1, false), 1);
        Check.due("value by the path", x.value(1, 0, 2), 5);
    }

    private static void emptyTapeTakesTwoThousandAgain() {
        ValueOrder x = new ValueOrder();
        feedTwoThousand(x);
        Check.due("refused", x.feed(0, 0, 0, 0, 0), -1);
        Check.due("path(0) takes all", x.path(0), -1);
        feedTwoThousand(x);
        Check.due("refused", x.feed(0, 0, 0, 0, 0), -1);
        Check.due("read takes all", x.read(0, 5), -1);
        feedTwoThousand(x);
        Check.due("refused", x.feed(0, 0, 0, 0, 0), -1);
    }

    /** By names of 1 to 20 bytes a number's eight bytes come to lie at each place of the twenty. */
    private static void eachPlaceOfTheTwenty() {
        char[] letters = new char[20];
        Arrays.fill(letters, 'n');
        for (int length = 1; length <= 20; length++) {
            for (long number : new long[] {0x80FF7F0102FE81C3L, 0x0123456789ABCDEFL, -1L, Long.MIN_VALUE, 1L}) {
                ValueOrder x = new ValueOrder();
                String name = new String(letters, 0, length);
                Check.due("read", Check.readDoc(x, 0, Check.doc(name, number)), 1);
                Check.takePath(x, name);
                x.list(0, 0, false);
                Check.due("number behind " + name, x.value(0, 0, 2), number);
            }
        }
    }
}
