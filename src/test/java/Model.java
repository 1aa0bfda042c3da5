import java.nio.ByteBuffer;
import java.nio.ByteOrder;
import java.nio.CharBuffer;
import java.nio.charset.CharacterCodingException;
import java.nio.charset.StandardCharsets;
import java.util.ArrayList;
import java.util.Arrays;
import java.util.HashSet;
import java.util.List;
import java.util.Set;

/** A second reading of the document with the Java library, for runs in which both must agree. */
final class Model {
    private static final class Bad extends Exception {
        private static final long serialVersionUID = 1L;
    }

    private record Val(int kind, long number, byte[] text, List<byte[]> names, List<Val> parts) {
    }

    private record Kept(Val val, int origin) {
    }

    private static final Val MISSING = new Val(0, 0, null, List.of(), List.of());

    private byte[] tape = new byte[0];
    private final Val[] slots = new Val[4];
    private final List<List<Kept>> lists = new ArrayList<>();
    private List<byte[]> steps = null;

    Model() {
        Arrays.fill(slots, new Val(3, 0, null, List.of(), List.of()));
        lists.add(new ArrayList<>());
        lists.add(new ArrayList<>());
    }

    int feed(int a, int b, int c, int d, int e) {
        if (tape.length + 20 > 2000) {
            return -1;
        }
        byte[] more = ByteBuffer.allocate(20).putInt(a).putInt(b).putInt(c).putInt(d).putInt(e).array();
        tape = Check.join(tape, more);
        return tape.length;
    }

    int read(int slot, int n) {
        if (slot < 0 || slot > 3 || n < 0 || n > tape.length) {
            return -2;
        }
        byte[] bytes = Arrays.copyOf(tape, n);
        tape = new byte[0];
        try {
            slots[slot] = nest(3, bytes, 1);
            return slots[slot].parts.size();
        } catch (Bad bad) {
            return -1;
        }
    }

    /** What read answers to these bytes, all of them. */
    static int elementsIn(byte[] bytes) {
        Model model = new Model();
        model.tape = bytes;
        return model.read(0, bytes.length);
    }

    /** The bytes must be those of the document, no more. */
    private static Val nest(int kind, byte[] bytes, int depth) throws Bad {
        ByteBuffer in = ByteBuffer.wrap(bytes).order(ByteOrder.LITTLE_ENDIAN);
        need(depth <= 16 && bytes.length >= 5 && in.getInt() == bytes.length && bytes[bytes.length - 1] == 0);
        in.limit(bytes.length - 1);
        Val made = new Val(kind, 0, null, new ArrayList<>(), new ArrayList<>());
        Set<String> seen = new HashSet<>();
        while (in.hasRemaining()) {
            int partKind = in.get();
            int end = in.position();
            while (end < in.limit() && bytes[end] != 0) {
                end++;
            }
            need(end < in.limit());
            byte[] name = take(in, end - in.position());
            in.get();
            String shown = decoded(name);
            need(seen.add(shown));
            need(kind == 3 || shown.equals(Integer.toString(made.parts.size())));
            made.names.add(name);
            made.parts.add(part(partKind, in, depth));
        }
        return made;
    }

    private static Val part(int kind, ByteBuffer in, int depth) throws Bad {
        switch (kind) {
            case 16:
                need(in.remaining() >= 4);
                return new Val(kind, in.getInt(), null, List.of(), List.of());
            case 18:
                need(in.remaining() >= 8);
                return new Val(kind, in.getLong(), null, List.of(), List.of());
            case 8:
                byte truth = take(in, 1)[0];
                need(truth == 0 || truth == 1);
                return new Val(kind, truth, null, List.of(), List.of());
            case 10:
                return new Val(kind, 0, null, List.of(), List.of());
            case 2:
                need(in.remaining() >= 4);
                int n = in.getInt();
                need(n >= 1 && n <= in.remaining());
                byte[] text = take(in, n - 1);
                decoded(text);
                need(in.get() == 0);
                return new Val(kind, 0, text, List.of(), List.of());
            case 3:
            case 4:
                need(in.remaining() >= 4);
                return nest(kind, take(in, in.getInt(in.position())), depth + 1);
            default:
                throw new Bad();
        }
    }

    private static byte[] take(ByteBuffer in, int n) throws Bad {
        need(n >= 0 && n <= in.remaining());
        byte[] made = new byte[n];
        in.get(made);
        return made;
    }

    private static void need(boolean holds) throws Bad {
        if (!holds) {
            throw new Bad();
        }
    }

    private static String decoded(byte[] bytes) throws Bad {
        try {
            CharBuffer out = StandardCharsets.UTF_8.newDecoder().decode(ByteBuffer.wrap(bytes));
            return out.toString();
        } catch (CharacterCodingException wrong) {
            throw new Bad();
        }
    }

    int path(int n) {
        if (n < 0 || n > tape.length) {
            return -2;
        }
        byte[] bytes = Arrays.copyOf(tape, n);
        tape = new byte[0];
        try {
            String[] parts = decoded(bytes).split("\\.", -1);
            List<byte[]> made = new ArrayList<>();
            for (String part : parts) {
                need(!part.isEmpty() && part.indexOf('\u0000') < 0);
                made.add(Check.utf8(part));
            }
            need(made.size() <= 8);
            steps = made;
            return made.size();
        } catch (Bad bad) {
            return -1;
        }
    }

    private static int rank(Val val) {
        return List.of(0, 10, 16, 2, 3, 4, 8).indexOf(val.kind == 18 ? 16 : val.kind);
    }

    private static int order(Val a, Val b) {
        if (rank(a) != rank(b)) {
            return rank(a) < rank(b) ? -1 : 1;
        }
        switch (a.kind) {
            case 2:
                return Integer.signum(Arrays.compareUnsigned(a.text, b.text));
            case 3:
            case 4:
                for (int i = 0; i < Math.min(a.parts.size(), b.parts.size()); i++) {
                    int answer = a.kind == 3 ? orderOfElements(a, b, i) : order(a.parts.get(i), b.parts.get(i));
                    if (answer != 0) {
                        return answer;
                    }
                }
                return Integer.compare(a.parts.size(), b.parts.size());
            default:
                return Long.compare(a.number, b.number);
        }
    }

    private static int orderOfElements(Val a, Val b, int i) {
        int classes = Integer.compare(rank(a.parts.get(i)), rank(b.parts.get(i)));
        if (classes != 0) {
            return classes;
        }
        int names = Integer.signum(Arrays.compareUnsigned(a.names.get(i), b.names.get(i)));
        return names != 0 ? names : order(a.parts.get(i), b.parts.get(i));
    }

    int compare(int r, int s) {
        boolean none = r < 0 || r > 3 || s < 0 || s > 3;
        return none ? -2 : order(slots[r], slots[s]);
    }

    private static List<Val> leaves(Val at, List<byte[]> rest) throws Bad {
        if (rest.isEmpty()) {
            return List.of(at);
        }
        List<byte[]> others = rest.subList(1, rest.size());
        String step = decoded(rest.get(0));
        if (at.kind == 3) {
            for (int i = 0; i < at.parts.size(); i++) {
                if (decoded(at.names.get(i)).equals(step)) {
                    return leaves(at.parts.get(i), others);
                }
            }
        }
        if (at.kind != 4) {
            return List.of(MISSING);
        }
        List<Val> met = new ArrayList<>();
        if (step.matches("0|[1-9][0-9]{0,6}") && Integer.parseInt(step) < at.parts.size()) {
            met.addAll(leaves(at.parts.get(Integer.parseInt(step)), others));
        }
        for (Val item : at.parts) {
            if (item.kind == 3) {
                met.addAll(leaves(item, rest));
            }
        }
        return met;
    }

    private List<Val> all(int slot, boolean items) {
        List<Val> made = new ArrayList<>();
        try {
            for (Val leaf : leaves(slots[slot], steps)) {
                made.add(leaf);
                if (items && leaf.kind == 4) {
                    made.addAll(leaf.parts);
                }
            }
        } catch (Bad never) {
            throw new IllegalStateException(never);
        }
        return made;
    }

    int list(int which, int slot, boolean items) {
        if (which < 0 || which > 1 || slot < 0 || slot > 3 || steps == null) {
            return -2;
        }
        List<Val> met = all(slot, items);
        List<Kept> made = new ArrayList<>();
        for (int i = 0; i < met.size() && met.size() <= 500; i++) {
            made.add(new Kept(met.get(i), i));
        }
        lists.set(which, made);
        return met.size() > 500 ? -1 : met.size();
    }

    private Kept kept(int which, int k) {
        boolean none = which < 0 || which > 1 || k < 0 || k >= lists.get(which).size();
        return none ? null : lists.get(which).get(k);
    }

    long value(int which, int k, int what) {
        Kept kept = kept(which, k);
        if (kept == null || what < 0 || what > 3) {
            return -1;
        }
        Val val = kept.val;
        long count = val.text != null ? val.text.length : val.parts.size();
        return new long[] {val.kind, rank(val), val.number, count}[what];
    }

    int text(int which, int k, int i) {
        Kept kept = kept(which, k);
        boolean none = kept == null || kept.val.kind != 2 || i < 0 || i >= kept.val.text.length;
        return none ? -1 : Byte.toUnsignedInt(kept.val.text[i]);
    }

    int between(int k, int j) {
        Kept a = kept(0, k);
        Kept b = kept(1, j);
        return a == null || b == null ? -2 : order(a.val, b.val);
    }

    int sort(int which) {
        if (which < 0 || which > 1) {
            return -1;
        }
        List<Kept> list = lists.get(which);
        list.sort((a, b) -> order(a.val, b.val));
        List<Val> different = new ArrayList<>();
        for (Kept kept : list) {
            if (different.stream().noneMatch(val -> order(val, kept.val) == 0)) {
                different.add(kept.val);
            }
        }
        return different.size();
    }

    int from(int which, int k) {
        Kept kept = kept(which, k);
        return kept == null ? -1 : kept.origin;
    }

    boolean meet(int r, int s, boolean items) {
        if (r < 0 || r > 3 || s < 0 || s > 3 || steps == null) {
            return false;
        }
        List<Val> left = all(r, items);
        List<Val> right = all(s, items);
        if (left.size() > 500 || right.size() > 500) {
            return false;
        }
        return left.stream().anyMatch(a -> right.stream().anyMatch(b -> order(a, b) == 0));
    }
}
