import java.util.List;

/** Promise 12: meet. */
public final class MeetTest {
    public static void main(String[] args) {
        sameLeaves();
        itemsOrNot();
        missingOnes();
        withoutLeaves();
        oneSlotTwice();
        tooMany();
        noSuchSlots();
        listsStay();
        oneAmongMany();
        Check.end();
    }

    private static void due(Object left, Object right, String path, boolean items, boolean want) {
        ValueOrder x = new ValueOrder();
        Check.readDoc(x, 1, Check.doc("a", left));
        Check.readDoc(x, 3, Check.doc("a", right));
        Check.takePath(x, path);
        Check.due("meet at " + path, x.meet(1, 3, items), want);
        Check.due("meet back at " + path, x.meet(3, 1, items), want);
    }

    private static void sameLeaves() {
        due(1, 1, "a", false, true);
        due(1, 1L, "a", false, true);
        due(1, 2, "a", false, false);
        due(1, true, "a", false, false);
        due("x", "x", "a", false, true);
        due("x", "xx", "a", false, false);
        due(null, null, "a", false, true);
        due(null, false, "a", false, false);
        due(Check.doc("b", 1), Check.doc("b", 1L), "a", false, true);
        due(Check.doc("b", 1), Check.doc("c", 1), "a", false, false);
        due(Check.row(Check.doc("b", 1), Check.doc("b", 2)), Check.row(Check.doc("b", 3), Check.doc("b", 2)), "a.b",
                false, true);
        due(Check.row(Check.doc("b", 1), Check.doc("b", 2)), Check.row(Check.doc("b", 3), Check.doc("b", 4)), "a.b",
                true, false);
    }

    private static void itemsOrNot() {
        due(Check.row(1, 2), 2, "a", true, true);
        due(Check.row(1, 2), 2, "a", false, false);
        due(Check.row(1, 2), Check.row(2, 1), "a", false, false);
        due(Check.row(1, 2), Check.row(2, 3), "a", true, true);
        due(Check.row(1, 2), Check.row(3, 4), "a", true, false);
        due(Check.row(Check.row(5)), Check.row(5), "a", true, true);
        due(Check.row(Check.row(5)), 5, "a", true, false);
        due(Check.row(), Check.row(), "a", false, true);
    }

    private static void missingOnes() {
        due(1, 2, "b", false, true);
        due(1, null, "a", false, false);
        due(Check.row(Check.doc("b", 1), Check.doc()), Check.doc("c", 2), "a.b", false, true);
        due(Check.doc("b", null), Check.doc(), "a.b", false, false);
    }

    private static void withoutLeaves() {
        due(Check.row(), Check.row(), "a.b", true, false);
        due(Check.row(1, 2), 7, "a.b", true, false);
        due(Check.row(1, 2), Check.row(1, 2), "a.2", true, false);
        due(Check.row(1, 2), Check.row(3, 2), "a.1", false, true);
    }

    private static void oneSlotTwice() {
        ValueOrder x = new ValueOrder();
        Check.readDoc(x, 0, Check.doc("a", 1, "r", Check.row()));
        Check.takePath(x, "a");
        Check.due("meet(0, 0)", x.meet(0, 0, false), true);
        Check.due("meet(1, 2) of documents without elements", x.meet(1, 2, false), true);
        Check.takePath(x, "r.a");
        Check.due("meet(0, 0) without leaves", x.meet(0, 0, false), false);
    }

    private static Check.Doc zeros(int items, int more) {
        List<Object> row = Check.row();
        for (int i = 0; i < items; i++) {
            row.add(null);
        }
        List<Object> outer = Check.row(Check.doc("0", Check.row(Check.doc("0", row))));
        for (int i = 0; i < more; i++) {
            outer.add(Check.doc());
        }
        return Check.doc("0", outer);
    }

    private static void tooMany() {
        ValueOrder x = new ValueOrder();
        Check.readDoc(x, 0, zeros(248, 0));
        Check.readDoc(x, 1, zeros(248, 1));
        Check.takePath(x, "0.0.0.0");
        Check.due("list of 500", x.list(0, 0, true), 500);
        Check.due("list of 501", x.list(0, 1, true), -1);
        Check.due("500 of both", x.meet(0, 0, true), true);
        Check.due("501 of the second", x.meet(0, 1, true), false);
        Check.due("501 of the first", x.meet(1, 0, true), false);
        Check.due("501 of both", x.meet(1, 1, true), false);
        Check.due("few of both", x.meet(0, 1, false), true);
        Check.due("500 of both, behind others", x.meet(0, 0, true), true);
    }

    private static void noSuchSlots() {
        ValueOrder x = new ValueOrder();
        Check.due("no path", x.meet(0, 0, false), false);
        Check.takePath(x, "a");
        Check.due("a path", x.meet(0, 0, false), true);
        for (int none : new int[] {-1, 4, 5, Integer.MAX_VALUE, Integer.MIN_VALUE}) {
            Check.due("no such slot", x.meet(none, 0, false), false);
            Check.due("no such slot", x.meet(0, none, true), false);
            Check.due("no such slots", x.meet(none, none, true), false);
        }
    }

    private static void listsStay() {
        ValueOrder x = new ValueOrder();
        Check.readDoc(x, 0, Check.doc("a", Check.row(3, 1)));
        Check.readDoc(x, 1, Check.doc("a", Check.row(2, 1, 0)));
        Check.takePath(x, "a");
        x.list(0, 0, true);
        x.list(1, 1, true);
        Check.due("meet", x.meet(1, 0, true), true);
        Check.due("value", x.value(0, 1, 2), 3);
        Check.due("from", x.from(0, 1), 1);
        Check.due("value", x.value(1, 1, 2), 2);
        Check.due("behind the last", x.value(0, 3, 0), -1);
    }

    private static void oneAmongMany() {
        for (int at = 0; at < 30; at++) {
            List<Object> left = Check.row();
            List<Object> right = Check.row();
            for (int i = 0; i < 30; i++) {
                left.add(2 * ((i * 7) % 30));
                right.add((long) (2 * ((i * 11) % 30) + (i == at ? 0 : 1)));
            }
            due(left, right, "a", true, true);
            right.set(at, 1001);
            due(left, right, "a", true, false);
        }
    }
}
