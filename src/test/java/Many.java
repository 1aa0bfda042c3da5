import java.util.List;

/** Documents in which a path meets as many values as a test wants, near 500. */
final class Many {
    static final String PATH = "0.0.0.0";
    static final String LONGER_PATH = "0.0.0.0.0.0";

    private Many() {
    }

    /**
     * {"0": [{"0": [{"0": innermost}]}, {} ..]}: the path takes the first item by its number and goes on at it as a
     * document too, and so again in the inner row. Behind all that each {} is one MISSING leaf.
     */
    private static Check.Doc zeros(List<Object> innermost, int more) {
        List<Object> outer = Check.row(Check.doc("0", Check.row(Check.doc("0", innermost))));
        for (int i = 0; i < more; i++) {
            outer.add(Check.doc());
        }
        return Check.doc("0", outer);
    }

    private static List<Object> rowOf(int count, Object item) {
        List<Object> made = Check.row();
        for (int i = 0; i < count; i++) {
            made.add(item);
        }
        return made;
    }

    /** With items, PATH meets a document, twice the row with its items, its item 0 and the MISSING: 2 n + 4 + more. */
    static Check.Doc withItems(int n, int more) {
        return zeros(rowOf(n, null), more);
    }

    /** LONGER_PATH meets four times each document of the row and its item 0, and the MISSING: 4 (n + 1) + more. */
    static Check.Doc withoutItems(int n, int more) {
        return zeros(rowOf(n, Check.doc()), more);
    }

    /** As withItems, but that PATH meets the tail last: 2 n + 4 + more, and the tail with its items. */
    static Check.Doc withTail(int n, int more, Object tail) {
        Check.Doc made = withItems(n, more);
        @SuppressWarnings("unchecked")
        List<Object> outer = (List<Object>) made.values.get(0);
        outer.add(Check.doc("0", Check.doc("0", Check.doc("0", tail))));
        return made;
    }

    /** Where PATH meets that value alone. */
    static Check.Doc only(Object value) {
        return Check.doc("0", Check.doc("0", Check.doc("0", Check.doc("0", value))));
    }
}
