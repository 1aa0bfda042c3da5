/** Promise 4: path, with the bounds of a path: "1 to 8 STEPS, none of them empty, of right UTF-8 without a 0". */
public final class PathTest {
    public static void main(String[] args) {
        stepsAreCounted();
        oneToEightSteps();
        longestSteps();
        noneOfThemEmpty();
        withoutZero();
        rightUtf8();
        lengthsOnTheTape();
        lengthBelowZeroOrTooMuchDoesNothing();
        tapeIsEmptyBehindAPath();
        tapeIsEmptyBehindNone();
        oldBytesAreNotThere();
        noPathStaysNone();
        pathStaysWhenThereIsNone();
        restStays();
        newPathTakesTheOldOnesPlace();
        Check.end();
    }

    private static void due(String path, int want) {
        Check.due("path " + path, Check.takePath(new ValueOrder(), path), want);
    }

    private static void stepsAreCounted() {
        due("a", 1);
        due("a.b", 2);
        due("0.00.a b.-1.\u00e9", 5);
        due("\u20ac.\ud83d\ude00", 2);
        for (char only = 1; only < 128; only++) {
            due(String.valueOf(only), only == '.' ? -1 : 1);
            due("x" + only + "y", only == '.' ? 2 : 1);
        }
    }

    private static void oneToEightSteps() {
        due("", -1);
        StringBuilder path = new StringBuilder();
        StringBuilder longer = new StringBuilder();
        for (int steps = 1; steps <= 20; steps++) {
            path.append(steps == 1 ? "" : ".").append((char) ('a' + steps));
            longer.append(steps == 1 ? "" : ".").append("step\u00e9").append(steps);
            due(path.toString(), steps <= 8 ? steps : -1);
            due(longer.toString(), steps <= 8 ? steps : -1);
        }
        due("a.".repeat(999) + "bb", -1);
        due("a.".repeat(1000), -1);
    }

    private static void longestSteps() {
        due("x".repeat(1999), 1);
        due("x".repeat(2000), 1);
        due("x".repeat(1998) + ".y", 2);
        due("x." + "y".repeat(1998), 2);
        due("x".repeat(1999) + ".", -1);
        due(("x".repeat(249) + ".").repeat(7) + "y".repeat(250), 8);
        due(("x".repeat(249) + ".").repeat(7) + "y".repeat(248) + ".z", -1);
    }

    private static void noneOfThemEmpty() {
        for (String path : new String[] {"", ".", "..", ".a", "a.", "a..b", "a.b.", ".a.b", "..a", "a..", "a...b",
            "a.b..c", "1.2.3.4.5.6.7.8.", ".1.2.3.4.5.6.7.8", "1.2.3.4.5.6.7.", ".1.2.3.4.5.6.7", "1.2.3..4.5.6.7"}) {
            due(path, -1);
        }
        due("1.2.3.4.5.6.7", 7);
    }

    /** At each place of a path. */
    private static void withoutZero() {
        due("\u0000", -1);
        byte[] path = Check.utf8("ab.c\u00e9.d");
        Check.due("without a 0", Check.takePath(new ValueOrder(), path), 3);
        for (int at = 0; at < path.length; at++) {
            byte[] changed = path.clone();
            changed[at] = 0;
            Check.due("a 0 at " + at, Check.takePath(new ValueOrder(), changed), -1);
            byte[] behind = Check.utf8("abc" + "\u0000".repeat(at + 1));
            Check.due("zeros behind", Check.takePath(new ValueOrder(), behind), -1);
        }
        due("abc", 1);
        due("a\u0001b", 1);
    }

    /** Also in the last of the steps, and across a point; each character's own bounds are Utf8Test's. */
    private static void rightUtf8() {
        int[][] wrongs = {{0xFF}, {0x61, 0x2E, 0xC3}, {0xC3, 0x2E, 0xA9}, {0xC0, 0x80}, {0xC0, 0xAE}, {0xED, 0xA0, 0x80},
            {0xF4, 0x90, 0x80, 0x80}, {0x61, 0x80}, {0xE2, 0x82}, {0x61, 0x2E, 0x62, 0x2E, 0x80}, {0x80, 0x2E, 0x61},
            {0xE2, 0x82, 0x2E, 0xAC}, {0x61, 0xC0, 0xAE, 0x62}};
        for (int[] wrong : wrongs) {
            Check.due("wrong UTF-8", Check.takePath(new ValueOrder(), Check.bytes(wrong)), -1);
        }
    }

    private static ValueOrder fed(String path) {
        ValueOrder x = new ValueOrder();
        Check.feedAll(x, Check.utf8(path));
        return x;
    }

    /** All there are, one more and one less, and 0 and one less. */
    private static void lengthsOnTheTape() {
        for (int length : new int[] {20, 40, 1980, 2000}) {
            String path = "a." + "x".repeat(length - 2);
            Check.due("path of all " + length, fed(path).path(length), 2);
            Check.due("path of one more than " + length, fed(path).path(length + 1), -2);
            Check.due("path of one less than " + length, fed(path).path(length - 1), 2);
            Check.due("path(3)", fed(path).path(3), 2);
            Check.due("path(2)", fed(path).path(2), -1);
            Check.due("path(1)", fed(path).path(1), 1);
            Check.due("path(0)", fed(path).path(0), -1);
            Check.due("path(-1)", fed(path).path(-1), -2);
        }
        Check.due("path(1) of no bytes", new ValueOrder().path(1), -2);
        Check.due("path(0) of no bytes", new ValueOrder().path(0), -1);
        Check.due("path(-1) of no bytes", new ValueOrder().path(-1), -2);
    }

    /** "-2, doing nothing, when n is below 0 or more than there are". */
    private static void lengthBelowZeroOrTooMuchDoesNothing() {
        int there = State.onTape();
        int[] lengths = {-1, -2, -24, there + 1, there + 2, 2000, 2001, Integer.MIN_VALUE, Integer.MAX_VALUE};
        for (int n : lengths) {
            Check.due("path(" + n + ")", State.busy().path(n), -2);
            State.stays("path(" + n + ")", State::busy, x -> x.path(n));
            State.stays("path(" + n + ") where there is none", State::busyWithoutPath, x -> x.path(n));
        }
    }

    private static void tapeIsEmpty(ValueOrder x) {
        Check.due("path of a byte more", x.path(1), -2);
        Check.due("read of a byte more", x.read(0, 1), -2);
        Check.due("feed", x.feed(0x622E6100, 0, 0, 0, 0), 20);
        Check.due("a path that was fed then", x.path(3), 2);
    }

    /** Those behind the first n are gone too. */
    private static void tapeIsEmptyBehindAPath() {
        for (int n : new int[] {1, 3, 5, 20, 40}) {
            ValueOrder x = fed("a.b." + "c".repeat(36));
            Check.due("path(" + n + ")", x.path(n), n < 4 ? (n + 1) / 2 : 3);
            tapeIsEmpty(x);
        }
    }

    private static void tapeIsEmptyBehindNone() {
        for (int n : new int[] {0, 2, 4, 21, 40}) {
            ValueOrder x = fed("a.b." + "c".repeat(16) + "\u0000" + "d".repeat(19));
            Check.due("path(" + n + ")", x.path(n), -1);
            tapeIsEmpty(x);
        }
    }

    private static void oldBytesAreNotThere() {
        ValueOrder x = fed("a".repeat(40));
        Check.due("path", x.path(40), 1);
        x.feed(0x622E6200, 0, 0, 0, 0);
        Check.due("path of bytes that are gone", x.path(21), -2);
        Check.due("path of those that are there", x.path(3), 2);
    }

    /** "-1 when they are none (the path stays)", where it is none and where it is one. */
    private static void noPathStaysNone() {
        for (String none : new String[] {"", ".", "a.", "a..b", "1.2.3.4.5.6.7.8.9", "a\u0000"}) {
            ValueOrder x = new ValueOrder();
            Check.due("no path", Check.takePath(x, none), -1);
            Check.due("list", x.list(0, 0, false), -2);
            Check.due("meet", x.meet(0, 0, false), false);
        }
    }

    private static void pathStaysWhenThereIsNone() {
        for (String none : new String[] {"", ".", "b.", ".b", "b..b", "b.2.3.4.5.6.7.8.9", "b\u0000", "b.\u0000"}) {
            ValueOrder x = new ValueOrder();
            Check.readDoc(x, 0, Check.doc("a", Check.doc("c", 1), "b", 2));
            Check.takePath(x, "a.c");
            Check.due("no path", Check.takePath(x, none), -1);
            Check.due("wrong bytes", Check.takePath(x, Check.bytes('b', 0xFF)), -1);
            Check.due("list by the path that stayed", x.list(0, 0, false), 1);
            Check.due("value by the path that stayed", x.value(0, 0, 2), 1);
        }
    }

    private static ValueOrder busyWithEmptyTape() {
        ValueOrder x = State.busy();
        x.read(0, 0);
        return x;
    }

    /** Slots and lists: neither bytes that are no path change them nor a path does. */
    private static void restStays() {
        State.stays("path of wrong bytes", PathTest::busyWithEmptyTape, x -> Check.takePath(x, "b."));
        State.stays("path of no bytes", PathTest::busyWithEmptyTape, x -> x.path(0));
        State.stays("the path that there is", PathTest::busyWithEmptyTape, x -> Check.takePath(x, "a"));
        State.stays("another path and back", PathTest::busyWithEmptyTape, x -> {
            Check.takePath(x, "b.c");
            Check.takePath(x, "a");
        });
    }

    private static void newPathTakesTheOldOnesPlace() {
        ValueOrder x = new ValueOrder();
        Check.readDoc(x, 0, Check.doc("a", Check.doc("c", 1), "b", 2));
        Check.takePath(x, "a.c");
        x.list(0, 0, false);
        Check.due("shorter path", Check.takePath(x, "b"), 1);
        Check.due("the list stays", x.value(0, 0, 2), 1);
        x.list(0, 0, false);
        Check.due("value of the new path", x.value(0, 0, 2), 2);
        Check.due("longer path", Check.takePath(x, "a.c"), 2);
        x.list(0, 0, false);
        Check.due("value of the newest path", x.value(0, 0, 2), 1);
    }
}
