import java.io.ByteArrayOutputStream;
import java.nio.charset.StandardCharsets;
import java.util.ArrayList;
import java.util.List;

/** What the tests share: counting wrong answers, building bytes, and putting them on the tape. */
final class Check {
    private static int wrong = 0;
    private static int asked = 0;

    private Check() {
    }

    static void due(String call, long got, long want) {
        asked++;
        if (got != want) {
            wrong++;
            System.out.println(call + " answered " + got + ", due is " + want);
        }
    }

    static void due(String call, boolean got, boolean want) {
        due(call, got ? 1 : 0, want ? 1 : 0);
    }

    /** Prints the sum and ends the test with exit code 1 if an answer was wrong. */
    static void end() {
        System.out.println(asked + " answers, " + wrong + " wrong");
        if (wrong != 0 || asked == 0) {
            System.exit(1);
        }
    }

    /** A document as names and values in turn; a row is a List. */
    static final class Doc {
        final List<String> names = new ArrayList<>();
        final List<Object> values = new ArrayList<>();

        Doc with(String name, Object value) {
            names.add(name);
            values.add(value);
            return this;
        }
    }

    static Doc doc(Object... namesAndValues) {
        Doc made = new Doc();
        for (int i = 0; i < namesAndValues.length; i += 2) {
            made.with((String) namesAndValues[i], namesAndValues[i + 1]);
        }
        return made;
    }

    static List<Object> row(Object... items) {
        List<Object> made = new ArrayList<>();
        for (Object item : items) {
            made.add(item);
        }
        return made;
    }

    static byte[] utf8(String text) {
        return text.getBytes(StandardCharsets.UTF_8);
    }

    static byte[] bytes(int... numbers) {
        byte[] made = new byte[numbers.length];
        for (int i = 0; i < numbers.length; i++) {
            made[i] = (byte) numbers[i];
        }
        return made;
    }

    static byte[] join(byte[]... parts) {
        ByteArrayOutputStream out = new ByteArrayOutputStream();
        for (byte[] part : parts) {
            out.writeBytes(part);
        }
        return out.toByteArray();
    }

    static byte[] lowFirst(long number, int width) {
        byte[] made = new byte[width];
        for (int i = 0; i < width; i++) {
            made[i] = (byte) (number >> (8 * i));
        }
        return made;
    }

    /** The bytes of a document or row with these bytes of elements. */
    static byte[] nest(byte[]... elements) {
        byte[] inside = join(elements);
        return join(lowFirst(inside.length + 5, 4), inside, bytes(0));
    }

    static byte[] element(int kind, String name, byte[] value) {
        return join(bytes(kind), utf8(name), bytes(0), value);
    }

    static byte[] textValue(byte[] text) {
        return join(lowFirst(text.length + 1, 4), text, bytes(0));
    }

    static byte[] encode(Doc doc) {
        byte[][] parts = new byte[doc.names.size()][];
        for (int i = 0; i < parts.length; i++) {
            parts[i] = encodeElement(doc.names.get(i), doc.values.get(i));
        }
        return nest(parts);
    }

    private static byte[] encodeRow(List<?> items) {
        Doc numbered = doc();
        for (int i = 0; i < items.size(); i++) {
            numbered.with(Integer.toString(i), items.get(i));
        }
        return encode(numbered);
    }

    private static byte[] encodeElement(String name, Object value) {
        if (value == null) {
            return element(10, name, bytes());
        }
        if (value instanceof Integer number) {
            return element(16, name, lowFirst(number, 4));
        }
        if (value instanceof Long number) {
            return element(18, name, lowFirst(number, 8));
        }
        if (value instanceof Boolean truth) {
            return element(8, name, bytes(truth ? 1 : 0));
        }
        if (value instanceof String text) {
            return element(2, name, textValue(utf8(text)));
        }
        if (value instanceof Doc inner) {
            return element(3, name, encode(inner));
        }
        return element(4, name, encodeRow((List<?>) value));
    }

    /** Five numbers whose bytes, highest first, are the twenty bytes from there on, 0 behind the end. */
    static int[] numbersAt(byte[] bytes, int start) {
        int[] numbers = new int[5];
        for (int i = 0; i < 20; i++) {
            int next = start + i < bytes.length ? bytes[start + i] & 255 : 0;
            numbers[i / 4] = numbers[i / 4] << 8 | next;
        }
        return numbers;
    }

    static void feedAll(ValueOrder x, byte[] bytes) {
        for (int start = 0; start < bytes.length; start += 20) {
            int[] n = numbersAt(bytes, start);
            x.feed(n[0], n[1], n[2], n[3], n[4]);
        }
    }

    static int readBytes(ValueOrder x, int slot, byte[] bytes) {
        feedAll(x, bytes);
        return x.read(slot, bytes.length);
    }

    /** What read answers to these bytes, in a new object. */
    static void reads(String what, byte[] bytes, int want) {
        due(what, readBytes(new ValueOrder(), 0, bytes), want);
    }

    static int readDoc(ValueOrder x, int slot, Doc doc) {
        return readBytes(x, slot, encode(doc));
    }

    static int takePath(ValueOrder x, byte[] path) {
        feedAll(x, path);
        return x.path(path.length);
    }

    static int takePath(ValueOrder x, String path) {
        return takePath(x, utf8(path));
    }
}
