import com.sun.management.ThreadMXBean;
import java.lang.management.ManagementFactory;
import java.util.Arrays;

/**
 * The room that a run of 512 calls takes, the new object included. What is measured are bytes of memory: an object
 * takes at least 16 of them and a field or an element at least one, so that few bytes mean little of either.
 */
public final class RoomTest {
    private static final int CALLS = 512;
    private static final long MOST_BYTES = 1_000_000L;
    private static final ThreadMXBean MEMORY = (ThreadMXBean) ManagementFactory.getThreadMXBean();

    private interface Run {
        int goOn(ValueOrder x, int call);
    }

    public static void main(String[] args) {
        byte[] most = mostElements();
        Check.reads("the document with the most elements", most, 5);
        takesLittle("documents with the most elements", null, (x, call) -> feedThenRead(x, call, most));
        byte[] spoilt = Check.join(Arrays.copyOf(most, most.length - 1), Check.bytes(1));
        Check.reads("none, for its last byte", spoilt, -1);
        takesLittle("refused documents", null, (x, call) -> feedThenRead(x, call, spoilt));
        byte[] small = Check.encode(Check.doc("", null, "a", null, "b", null, "c", null));
        takesLittle("small documents", null, (x, call) -> feedThenRead(x, call, small));
        takesLittle("paths", null, RoomTest::feedThenPath);
        byte[] many = Check.encode(Many.withItems(248, 0));
        takesLittle("lists", many, (x, call) -> x.list(call % 2, 0, true));
        takesLittle("sorting", many, (x, call) -> call % 2 == 0 ? x.list(0, 0, true) : x.sort(0));
        takesLittle("meeting", many, (x, call) -> x.meet(0, 0, true) ? 1 : 0);
        takesLittle("comparing", many, (x, call) -> x.compare(0, 0));
        Check.end();
    }

    /** Five documents, each with every name of at most one byte: the shorter the names, the more elements. */
    private static byte[] mostElements() {
        Check.Doc outer = Check.doc();
        for (char name = 'a'; name <= 'e'; name++) {
            Check.Doc inner = Check.doc("", null);
            for (char single = 1; single < 128; single++) {
                inner.with(String.valueOf(single), null);
            }
            outer.with(String.valueOf(name), inner);
        }
        return Check.encode(outer);
    }

    private static int feedThenRead(ValueOrder x, int call, byte[] bytes) {
        int feeds = (bytes.length + 19) / 20;
        int at = call % (feeds + 1);
        return at == feeds ? x.read(call % 4, bytes.length) : feedAt(x, bytes, at * 20);
    }

    private static int feedThenPath(ValueOrder x, int call) {
        byte[] path = Check.utf8("a.b.c.d.e.f.g.hijklm");
        return call % 2 == 0 ? feedAt(x, path, 0) : x.path(path.length);
    }

    private static int feedAt(ValueOrder x, byte[] bytes, int start) {
        int[] n = Check.numbersAt(bytes, start);
        return x.feed(n[0], n[1], n[2], n[3], n[4]);
    }

    private static void takesLittle(String what, byte[] first, Run run) {
        long before = MEMORY.getCurrentThreadAllocatedBytes();
        ValueOrder x = new ValueOrder();
        int made = first == null ? 0 : prepared(x, first);
        for (int call = 0; call < CALLS - made; call++) {
            run.goOn(x, call);
        }
        long taken = MEMORY.getCurrentThreadAllocatedBytes() - before;
        System.out.println(what + ": " + taken + " bytes");
        Check.due("room for " + what, taken > 0 && taken < MOST_BYTES, true);
    }

    /** Reads the document and takes the path; answers how many calls that took. */
    private static int prepared(ValueOrder x, byte[] first) {
        Check.readBytes(x, 0, first);
        Check.takePath(x, Many.PATH);
        return (first.length + 19) / 20 + 3;
    }
}
