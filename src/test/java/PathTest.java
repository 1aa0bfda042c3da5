/** Promise 4: path. */
public final class PathTest {
    public static void main(String[] args) {
        stepsAreCounted();
        wrongPaths();
        lengths();
        tapeIsEmptyThen();
        pathStays();
        Check.end();
    }

    private static void due(String path, int want) {
        Check.due("path " + path, Check.takePath(new ValueOrder(), path), want);
    }

    private static void stepsAreCounted() {
        due("a", 1);
        due("a.b", 2);
        due("0.00.a b.-1.\u00e9", 5);
        due("1.2.3.4.5.6.7.8", 8);
        due("1.2.3.4.5.6.7.8.9", -1);
        due("1.2.3.4.5.6.7.8.9.10", -1);
        due("x".repeat(2000), 1);
        due("x".repeat(1000) + "." + "y".repeat(999), 2);
        due(("x".repeat(249) + ".").repeat(7) + "y".repeat(250), 8);
        due("\u20ac.\ud83d\ude00", 2);
    }

    private static void wrongPaths() {
        for (String path : new String[] {"", ".", "..", ".a", "a.", "a..b", "a.b.", ".a.b", "1.2.3.4.5.6.7.8."}) {
            due(path, -1);
        }
        due("a\u0000b", -1);
        due("\u0000", -1);
        due("a.\u0000", -1);
        int[][] wrongs = {{0xFF}, {0x61, 0x2E, 0xC3}, {0xC3, 0x2E, 0xA9}, {0xC0, 0x80}, {0xC0, 0xAE}, {0xED, 0xA0, 0x80},
            {0xF4, 0x90, 0x80, 0x80}, {0x61, 0x80}, {0xE2, 0x82}};
        for (int[] wrong : wrongs) {
            Check.due("wrong UTF-8", Check.takePath(new ValueOrder(), Check.bytes(wrong)), -1);
        }
    }

    private static void lengths() {
        ValueOrder x = new ValueOrder();
        Check.due("path(1) of an empty tape", x.path(1), -2);
        x.feed(0x612E622E, 0x63000000, 0, 0, 0);
        Check.due("path(-1)", x.path(-1), -2);
        Check.due("path(MIN)", x.path(Integer.MIN_VALUE), -2);
        Check.due("path(21)", x.path(21), -2);
        Check.due("path(MAX)", x.path(Integer.MAX_VALUE), -2);
        Check.due("path of what stayed", x.path(5), 3);
        x.feed(0x612E622E, 0x63000000, 0, 0, 0);
        Check.due("path of a part", x.path(3), 2);
        x.feed(0x61616161, 0x61616161, 0x61616161, 0x61616161, 0x61616161);
        Check.due("path of all", x.path(20), 1);
    }

    private static void tapeIsEmptyThen() {
        ValueOrder x = new ValueOrder();
        Check.takePath(x, "a");
        Check.due("path behind a right one", x.path(1), -2);
        Check.takePath(x, ".");
        Check.due("path behind a wrong one", x.path(1), -2);
        x.feed(1, 2, 3, 4, 5);
        Check.due("path(0)", x.path(0), -1);
        Check.due("feed behind path(0)", x.feed(1, 2, 3, 4, 5), 20);
    }

    private static void pathStays() {
        ValueOrder x = new ValueOrder();
        Check.readDoc(x, 0, Check.doc("a", 1, "b", 2));
        Check.takePath(x, "a.");
        Check.due("no path yet", x.list(0, 0, false), -2);
        Check.takePath(x, "a");
        Check.due("wrong path", Check.takePath(x, "b."), -1);
        Check.due("path of too many", x.path(5), -2);
        x.list(0, 0, false);
        Check.due("value of the path that stayed", x.value(0, 0, 2), 1);
        Check.takePath(x, "b");
        Check.due("the list stays when there is a new path", x.value(0, 0, 2), 1);
        x.list(0, 0, false);
        Check.due("value of the new path", x.value(0, 0, 2), 2);
    }
}
