import java.nio.ByteBuffer;
import java.nio.charset.CharacterCodingException;
import java.nio.charset.StandardCharsets;
import java.util.Arrays;

/**
 * Promises 3 and 4: "Right UTF-8: characters up to 1114111 but 55296 to 57343, each in its shortest form", in
 * texts, in names and in paths.
 */
public final class Utf8Test {
    // One step on either side of the bytes that stand inside a character, and these bytes' own ends.
    private static final int[] INSIDE = {0x01, 0x7F, 0x80, 0xBF, 0xC0, 0xFF};

    public static void main(String[] args) {
        edgesOfCharacters();
        charactersInLongerForms();
        charactersBeyondTheLast();
        eachCharacter();
        oneAndTwoBytes();
        threeBytes();
        fourBytes();
        cutAndFollowed();
        cutByTheEnd();
        zeroInAll();
        Check.end();
    }

    private static void everywhere(String what, byte[] bytes, boolean right) {
        int want = right ? 1 : -1;
        Check.reads("text " + what, Check.nest(Check.element(2, "a", Check.textValue(bytes))), want);
        Check.reads("name " + what, Check.nest(Check.join(Check.bytes(10), bytes, Check.bytes(0))), want);
        Check.due("path " + what, Check.takePath(new ValueOrder(), bytes), want);
    }

    private static void everywhere(String what, int[] bytes, boolean right) {
        everywhere(what, Check.bytes(bytes), right);
    }

    /** The form of that many bytes, be it the shortest one or not. */
    private static byte[] form(int character, int length) {
        byte[] made = new byte[length];
        int rest = character;
        for (int i = length - 1; i > 0; i--) {
            made[i] = (byte) (0x80 | rest & 0x3F);
            rest >>= 6;
        }
        int lead = length == 1 ? 0 : 0xFF00 >> length & 0xFF;
        made[0] = (byte) (lead | rest);
        return made;
    }

    private static int shortest(int character) {
        if (character < 0x80) {
            return 1;
        }
        if (character < 0x800) {
            return 2;
        }
        return character < 0x10000 ? 3 : 4;
    }

    private static boolean isOne(int character) {
        return character <= 1114111 && (character < 55296 || character > 57343);
    }

    /** Each edge with its neighbours, and each beside other characters. */
    private static void edgesOfCharacters() {
        for (int edge : new int[] {2, 127, 128, 2047, 2048, 55295, 55296, 56319, 56320, 57343, 57344, 65535, 65536, 1114111}) {
            for (int character = edge - 1; character <= edge + 1; character++) {
                byte[] bytes = form(character, shortest(character));
                String what = "character " + character;
                everywhere(what, bytes, isOne(character));
                everywhere(what + " behind others", Check.join(Check.utf8("a\u00e9\u20ac\ud83d\ude00"), bytes),
                        isOne(character));
                everywhere(what + " ahead of others", Check.join(bytes, Check.utf8("\ud83d\ude00\u20ac\u00e9a")),
                        isOne(character));
            }
        }
        everywhere("a pair of halves", Check.join(form(0xD83D, 3), form(0xDE00, 3)), false);
    }

    private static void charactersInLongerForms() {
        for (int character : new int[] {0, 1, '.', '0', 'a', 127, 128, 2047, 2048, 55295, 57344, 65535, 65536, 1114111}) {
            for (int length = shortest(character) + 1; length <= 6; length++) {
                everywhere(character + " in " + length + " bytes", form(character, length), false);
            }
        }
    }

    private static void charactersBeyondTheLast() {
        for (int character : new int[] {1114112, 1114113, 0x13FFFF, 0x140000, 0x1FFFFF}) {
            everywhere("character " + character, form(character, 4), false);
        }
        for (int character : new int[] {0x200000, 0x3FFFFFF}) {
            everywhere("character " + character, form(character, 5), false);
        }
        everywhere("character 67108864", form(0x4000000, 6), false);
    }

    /** All that are right ones, in texts of a hundred, and all halves of pairs alone. */
    private static void eachCharacter() {
        StringBuilder some = new StringBuilder();
        for (int character = 1; character <= 1114111; character++) {
            if (isOne(character) && character != '.') {
                some.appendCodePoint(character);
            } else if (character != '.') {
                everywhere("half of a pair " + character, form(character, 3), false);
            }
            if (character % 100 == 0 || character == 1114111) {
                if (some.length() > 0) {
                    everywhere("characters up to " + character, Check.utf8(some.toString()), true);
                }
                some.setLength(0);
            }
        }
    }

    /** What the Java library says of it; a 0 or a point would mean something else in names and paths. */
    private static void asTheLibrary(int... bytes) {
        boolean right = true;
        for (int b : bytes) {
            if (b == 0 || b == '.') {
                return;
            }
        }
        try {
            StandardCharsets.UTF_8.newDecoder().decode(ByteBuffer.wrap(Check.bytes(bytes)));
        } catch (CharacterCodingException wrong) {
            right = false;
        }
        everywhere(Arrays.toString(bytes), bytes, right);
    }

    private static void oneAndTwoBytes() {
        for (int first = 1; first < 256; first++) {
            asTheLibrary(first);
            for (int second = 1; second < 256; second += first < 0x7E ? 13 : 1) {
                asTheLibrary(first, second);
            }
        }
    }

    private static void threeBytes() {
        for (int first : new int[] {0xDF, 0xE0, 0xE1, 0xEC, 0xED, 0xEE, 0xEF, 0xF0, 0xF8, 0xFC, 0xFF}) {
            for (int second = 0x70; second < 0xD0; second++) {
                for (int third : INSIDE) {
                    asTheLibrary(first, second, third);
                }
            }
        }
    }

    private static void fourBytes() {
        for (int first = 0xEF; first < 0x100; first++) {
            for (int second : new int[] {0x7F, 0x80, 0x8F, 0x90, 0x91, 0xA0, 0xBF, 0xC0}) {
                for (int third : INSIDE) {
                    for (int fourth : INSIDE) {
                        asTheLibrary(first, second, third, fourth);
                    }
                }
            }
        }
    }

    /** A character that lacks its last bytes, at the end and ahead of another, and one with a byte more. */
    private static void cutAndFollowed() {
        for (String character : new String[] {"\u0080", "\u07ff", "\u0800", "\uffff", "\ud800\udc00", "\udbff\udfff"}) {
            byte[] whole = Check.utf8(character);
            for (int length = 1; length < whole.length; length++) {
                byte[] cut = Arrays.copyOf(whole, length);
                everywhere("cut", cut, false);
                everywhere("cut behind a letter", Check.join(Check.utf8("a"), cut), false);
                everywhere("cut ahead of a letter", Check.join(cut, Check.utf8("a")), false);
                everywhere("cut ahead of a character", Check.join(cut, whole), false);
            }
            everywhere("whole", whole, true);
            everywhere("twice", Check.join(whole, whole), true);
            everywhere("and a byte more", Check.join(whole, Check.bytes(0x80)), false);
            everywhere("behind a byte", Check.join(Check.bytes(0xBF), whole), false);
        }
    }

    /** What lies on the tape behind the first n bytes does not make a character whole. */
    private static void cutByTheEnd() {
        for (String character : new String[] {"\u0080", "\u07ff", "\u0800", "\uffff", "\ud800\udc00", "\udbff\udfff"}) {
            byte[] whole = Check.utf8("a." + character);
            for (int n = 1; n <= whole.length; n++) {
                ValueOrder x = new ValueOrder();
                Check.feedAll(x, whole);
                Check.due("path(" + n + ")", x.path(n), n == 1 ? 1 : n == whole.length ? 2 : -1);
                ValueOrder y = new ValueOrder();
                Check.takePath(y, whole);
                Check.feedAll(y, Arrays.copyOf(whole, n));
                Check.due("path(" + n + ") again", y.path(n), n == 1 ? 1 : n == whole.length ? 2 : -1);
            }
            byte[] text = Check.textValue(Arrays.copyOf(whole, whole.length - 1));
            text[text.length - 1] = whole[whole.length - 1];
            Check.reads("text that ends where its 0 should be", Check.nest(Check.element(2, "a", text)), -1);
            Check.reads("and a 0 behind it", Check.nest(Check.element(2, "a", text), Check.bytes(0)), -1);
        }
    }

    /** A 0 is a character of a text, ends a name and is in no path. */
    private static void zeroInAll() {
        byte[] zero = Check.bytes('a', 0, 'b');
        Check.reads("0 in a text", Check.nest(Check.element(2, "a", Check.textValue(zero))), 1);
        Check.reads("0 in a name", Check.nest(Check.join(Check.bytes(10), zero, Check.bytes(0))), -1);
        Check.due("0 in a path", Check.takePath(new ValueOrder(), zero), -1);
    }
}
