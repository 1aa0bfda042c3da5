import java.util.Arrays;

/**
 * The order of values of all kinds, and the values that a path meets in a document.
 * No call throws: what the document does not allow is answered by a number of its own.
 */
public final class ValueOrder {
    private static final int MOST_BYTES = 2000;
    private static final int MOST_DEPTH = 16;
    private static final int MOST_STEPS = 8;
    private static final int MOST_VALUES = 500;
    private static final int SLOT_COUNT = 4;
    private static final int LIST_COUNT = 2;
    private static final int FEED_BYTES = 20;

    private static final int MISSING = 0;
    private static final int TEXT = 2;
    private static final int DOCUMENT = 3;
    private static final int ROW = 4;
    private static final int TRUTH = 8;
    private static final int NOTHING = 10;
    private static final int WHOLE_32 = 16;
    private static final int WHOLE_64 = 18;

    private static final byte[] NO_BYTES = {};

    private final byte[] tape;
    private int fed;
    private final Value[] slots;
    private final ValueList[] lists;
    private final ValueList leftLeaves;
    private final ValueList rightLeaves;
    private final Value missing;
    private Step firstStep;

    public ValueOrder() {
        tape = new byte[MOST_BYTES];
        slots = new Value[SLOT_COUNT];
        for (int slot = 0; slot < slots.length; slot++) {
            slots[slot] = new Value(DOCUMENT, NO_BYTES, 0L, NO_BYTES);
        }
        lists = new ValueList[LIST_COUNT];
        for (int which = 0; which < lists.length; which++) {
            lists[which] = new ValueList();
        }
        leftLeaves = new ValueList();
        rightLeaves = new ValueList();
        missing = new Value(MISSING, NO_BYTES, 0L, NO_BYTES);
    }

    public int feed(int a, int b, int c, int d, int e) {
        if (fed + FEED_BYTES > MOST_BYTES) {
            return -1;
        }
        putNumber(a);
        putNumber(b);
        putNumber(c);
        putNumber(d);
        putNumber(e);
        return fed;
    }

    public int read(int slot, int n) {
        if (!isSlot(slot) || !isOnTape(n)) {
            return -2;
        }
        fed = 0;
        Value document = new Reader(tape).wholeDocument(n);
        if (document == null) {
            return -1;
        }
        slots[slot] = document;
        return document.count;
    }

    public int path(int n) {
        if (!isOnTape(n)) {
            return -2;
        }
        fed = 0;
        Step first = Step.chainOf(tape, n);
        if (first == null) {
            return -1;
        }
        firstStep = first;
        return first.count;
    }

    public int compare(int r, int s) {
        if (!isSlot(r) || !isSlot(s)) {
            return -2;
        }
        return Order.ofValues(slots[r], slots[s], 1);
    }

    public int list(int which, int slot, boolean items) {
        if (!isList(which) || !isSlot(slot) || firstStep == null) {
            return -2;
        }
        return fillWithLeaves(lists[which], slots[slot], items) ? lists[which].size : -1;
    }

    public long value(int which, int k, int what) {
        Value found = valueInList(which, k);
        if (found == null) {
            return -1;
        }
        switch (what) {
            case 0:
                return found.kind;
            case 1:
                return found.rank();
            case 2:
                return found.number;
            case 3:
                return found.count;
            default:
                return -1;
        }
    }

    public int text(int which, int k, int i) {
        Value found = valueInList(which, k);
        if (found == null || i < 0 || i >= found.bytes.length) {
            return -1;
        }
        return found.bytes[i] & 255;
    }

    public int between(int k, int j) {
        Value left = valueInList(0, k);
        Value right = valueInList(1, j);
        if (left == null || right == null) {
            return -2;
        }
        return Order.ofValues(left, right, 1);
    }

    public int sort(int which) {
        if (!isList(which)) {
            return -1;
        }
        lists[which].arrange();
        return lists[which].countDifferent();
    }

    public int from(int which, int k) {
        return isList(which) ? lists[which].originAt(k) : -1;
    }

    public boolean meet(int r, int s, boolean items) {
        if (!isSlot(r) || !isSlot(s) || firstStep == null) {
            return false;
        }
        if (!fillWithLeaves(leftLeaves, slots[r], items) || !fillWithLeaves(rightLeaves, slots[s], items)) {
            return false;
        }
        leftLeaves.arrange();
        rightLeaves.arrange();
        return leftLeaves.sharesWith(rightLeaves);
    }

    private void putNumber(int number) {
        for (int shift = 24; shift >= 0 && fed < tape.length; shift -= 8) {
            tape[fed] = (byte) (number >> shift);
            fed++;
        }
    }

    private boolean isOnTape(int n) {
        return n >= 0 && n <= fed;
    }

    private boolean isSlot(int slot) {
        return slot >= 0 && slot < slots.length;
    }

    private boolean isList(int which) {
        return which >= 0 && which < lists.length;
    }

    private Value valueInList(int which, int k) {
        return isList(which) ? lists[which].valueAt(k) : null;
    }

    /** False, and the list is without values, when there are too many leaves. */
    private boolean fillWithLeaves(ValueList into, Value document, boolean items) {
        into.clear();
        new Walk(into, items, missing).follow(document, firstStep, 1);
        if (into.overfull) {
            into.clear();
            return false;
        }
        return true;
    }

    /** A copy of the bytes from start up to end, none where there are no such bytes. */
    private static byte[] copyOfBytes(byte[] bytes, int start, int end) {
        if (start < 0 || end <= start || end > bytes.length) {
            return NO_BYTES;
        }
        return Arrays.copyOfRange(bytes, start, end);
    }

    /**
     * A value with the name that it bears as an element. Only the reader appends to it, so lists
     * may go on holding it when its slot is read anew.
     */
    private static final class Value {
        final int kind;
        final byte[] name;
        final long number;
        final byte[] bytes;
        int count;
        Value first;
        Value last;
        Value next;

        Value(int kind, byte[] name, long number, byte[] bytes) {
            this.kind = kind;
            this.name = name;
            this.number = number;
            this.bytes = bytes;
            this.count = bytes.length;
        }

        int rank() {
            switch (kind) {
                case NOTHING:
                    return 1;
                case WHOLE_32:
                case WHOLE_64:
                    return 2;
                case TEXT:
                    return 3;
                case DOCUMENT:
                    return 4;
                case ROW:
                    return 5;
                case TRUTH:
                    return 6;
                default:
                    return 0;
            }
        }

        void append(Value element) {
            if (last == null) {
                first = element;
            } else {
                last.next = element;
            }
            last = element;
            count++;
        }

        /** The element of that name, or null. The items of a row bear their numbers as names. */
        Value elementNamed(byte[] wanted) {
            for (Value element = first; element != null; element = element.next) {
                if (Order.ofBytes(element.name, wanted) == 0) {
                    return element;
                }
            }
            return null;
        }

        boolean admitsName(byte[] added) {
            return kind == ROW ? isDecimal(added, count) : elementNamed(added) == null;
        }

        /** Whether these are the number's digits: all of them, and no 0 ahead. */
        private static boolean isDecimal(byte[] digits, int number) {
            int rest = number;
            for (int i = digits.length - 1; i >= 0; i--) {
                boolean zeroAhead = rest == 0 && i < digits.length - 1;
                if (zeroAhead || digits[i] != '0' + rest % 10) {
                    return false;
                }
                rest /= 10;
            }
            return rest == 0 && digits.length > 0;
        }
    }

    /** The order of values, names and texts: -1, 0 or 1. */
    private static final class Order {
        static int ofValues(Value left, Value right, int depth) {
            // An element of the deepest document stands one level below it; nothing is deeper.
            if (left == null || right == null || depth > MOST_DEPTH + 1) {
                return 0;
            }
            int answer = Integer.compare(left.rank(), right.rank());
            if (answer == 0) {
                answer = Long.compare(left.number, right.number);
            }
            if (answer == 0) {
                answer = ofBytes(left.bytes, right.bytes);
            }
            return answer == 0 ? ofElements(left, right, depth) : answer;
        }

        /** Serves rows too: items at the same place bear the same name. */
        private static int ofElements(Value left, Value right, int depth) {
            Value mine = left.first;
            Value other = right.first;
            while (mine != null && other != null) {
                int answer = Integer.compare(mine.rank(), other.rank());
                if (answer == 0) {
                    answer = ofBytes(mine.name, other.name);
                }
                if (answer == 0) {
                    answer = ofValues(mine, other, depth + 1);
                }
                if (answer != 0) {
                    return answer;
                }
                mine = mine.next;
                other = other.next;
            }
            return Integer.compare(left.count, right.count);
        }

        static int ofBytes(byte[] left, byte[] right) {
            for (int i = 0; i < left.length && i < right.length; i++) {
                if (left[i] != right[i]) {
                    return Integer.compare(left[i] & 255, right[i] & 255);
                }
            }
            return Integer.compare(left.length, right.length);
        }
    }

    /** Right UTF-8: each character in its shortest form, and none that is only half of a pair. */
    private static final class Utf8 {
        static boolean isRight(byte[] bytes, int start, int end) {
            if (start < 0 || end > bytes.length) {
                return false;
            }
            int at = start;
            for (int k = start; k < end && at < end; k++) {
                int length = lengthByLead(bytes[at] & 255);
                if (length == 0 || length > end - at || !isCharacter(bytes, at, length)) {
                    return false;
                }
                at += length;
            }
            return true;
        }

        private static int lengthByLead(int lead) {
            if (lead < 0x80) {
                return 1;
            }
            if (lead < 0xC0) {
                return 0;
            }
            if (lead < 0xE0) {
                return 2;
            }
            if (lead < 0xF0) {
                return 3;
            }
            return lead < 0xF8 ? 4 : 0;
        }

        private static boolean isCharacter(byte[] bytes, int at, int length) {
            if (length == 1) {
                return true;
            }
            int character = bytes[at] & (0x7F >> length);
            for (int i = at + 1; i < at + length && i < bytes.length; i++) {
                if ((bytes[i] & 0xC0) != 0x80) {
                    return false;
                }
                character = character << 6 | bytes[i] & 0x3F;
            }
            boolean surrogate = character >= 55296 && character <= 57343;
            int least = length == 2 ? 0x80 : length == 3 ? 0x800 : 0x10000;
            return character >= least && character <= 1114111 && !surrogate;
        }
    }

    /** Reads a document from bytes; null wherever they are not what they must be. */
    private static final class Reader {
        private static final int LEAST_NEST = 5;

        private final byte[] bytes;
        private int at;

        Reader(byte[] bytes) {
            this.bytes = bytes;
        }

        Value wholeDocument(int length) {
            at = 0;
            Value document = readNest(DOCUMENT, NO_BYTES, length, 1);
            return at == length ? document : null;
        }

        private Value readNest(int kind, byte[] name, int end, int depth) {
            int start = at;
            if (depth > MOST_DEPTH || !has(LEAST_NEST, end)) {
                return null;
            }
            int size = (int) readNumber(4);
            if (size < LEAST_NEST || size > end - start) {
                return null;
            }
            int closing = start + size - 1;
            Value nest = new Value(kind, name, 0L, NO_BYTES);
            for (int k = 0; k < MOST_BYTES && at < closing; k++) {
                Value element = readElement(closing, depth);
                if (element == null || !nest.admitsName(element.name)) {
                    return null;
                }
                nest.append(element);
            }
            return at == closing && skipsZero() ? nest : null;
        }

        private Value readElement(int end, int depth) {
            if (!has(1, end)) {
                return null;
            }
            int kind = (int) readNumber(1);
            byte[] name = readName(end);
            if (name == null) {
                return null;
            }
            switch (kind) {
                case WHOLE_32:
                    return has(4, end) ? new Value(kind, name, (int) readNumber(4), NO_BYTES) : null;
                case WHOLE_64:
                    return has(8, end) ? new Value(kind, name, readNumber(8), NO_BYTES) : null;
                case TRUTH:
                    return readTruth(name, end);
                case NOTHING:
                    return new Value(kind, name, 0L, NO_BYTES);
                case TEXT:
                    return readText(name, end);
                case DOCUMENT:
                case ROW:
                    return readNest(kind, name, end, depth + 1);
                default:
                    return null;
            }
        }

        private byte[] readName(int end) {
            int start = at;
            int stop = start;
            while (stop < end && stop < bytes.length && bytes[stop] != 0) {
                stop++;
            }
            if (stop >= end || !Utf8.isRight(bytes, start, stop)) {
                return null;
            }
            at = stop + 1;
            return copyOfBytes(bytes, start, stop);
        }

        private Value readTruth(byte[] name, int end) {
            if (!has(1, end)) {
                return null;
            }
            long said = readNumber(1);
            return said <= 1 ? new Value(TRUTH, name, said, NO_BYTES) : null;
        }

        private Value readText(byte[] name, int end) {
            if (!has(4, end)) {
                return null;
            }
            int length = (int) readNumber(4);
            if (length < 1 || !has(length, end)) {
                return null;
            }
            int start = at;
            at = start + length - 1;
            if (!Utf8.isRight(bytes, start, at) || !skipsZero()) {
                return null;
            }
            return new Value(TEXT, name, 0L, copyOfBytes(bytes, start, start + length - 1));
        }

        private boolean has(int wanted, int end) {
            return wanted <= end - at && end <= bytes.length;
        }

        /** The number of the next bytes, the lowest first; without sign but for eight of them. */
        private long readNumber(int width) {
            long sum = 0;
            for (int i = 0; i < width && at < bytes.length; i++) {
                sum |= (bytes[at] & 255L) << (8 * i);
                at++;
            }
            return sum;
        }

        private boolean skipsZero() {
            if (at >= bytes.length || bytes[at] != 0) {
                return false;
            }
            at++;
            return true;
        }
    }

    /** A step of the path, and how many there are from it on. */
    private static final class Step {
        final byte[] name;
        final Step next;
        final int count;

        private Step(byte[] name, Step next) {
            this.name = name;
            this.next = next;
            this.count = next == null ? 1 : next.count + 1;
        }

        /** The first step of a path, or null when the bytes are none. */
        static Step chainOf(byte[] bytes, int length) {
            if (length > bytes.length || !Utf8.isRight(bytes, 0, length)) {
                return null;
            }
            Step chain = null;
            int end = length;
            for (int i = length - 1; i >= -1; i--) {
                if (i >= 0 && bytes[i] == 0) {
                    return null;
                }
                if (i < 0 || bytes[i] == '.') {
                    boolean full = chain != null && chain.count == MOST_STEPS;
                    if (i + 1 == end || full) {
                        return null;
                    }
                    chain = new Step(copyOfBytes(bytes, i + 1, end), chain);
                    end = i;
                }
            }
            return chain;
        }
    }

    /** Goes the path's steps from a value on and adds the leaves to a list. */
    private static final class Walk {
        private final ValueList met;
        private final boolean items;
        private final Value missing;

        Walk(ValueList met, boolean items, Value missing) {
            this.met = met;
            this.items = items;
            this.missing = missing;
        }

        void follow(Value here, Step step, int depth) {
            if (met.overfull || depth > MOST_DEPTH + 1) {
                return;
            }
            if (step == null) {
                addLeaf(here);
            } else if (here.kind == ROW) {
                followInRow(here, step, depth);
            } else {
                followInOther(here, step, depth);
            }
        }

        private void followInRow(Value row, Step step, int depth) {
            Value numbered = row.elementNamed(step.name);
            if (numbered != null) {
                follow(numbered, step.next, depth + 1);
            }
            for (Value item = row.first; item != null && !met.overfull; item = item.next) {
                if (item.kind == DOCUMENT) {
                    follow(item, step, depth + 1);
                }
            }
        }

        /** Where there is no document there is no element either: the step misses in both cases. */
        private void followInOther(Value here, Step step, int depth) {
            Value element = here.elementNamed(step.name);
            if (element == null) {
                met.add(missing);
            } else {
                follow(element, step.next, depth + 1);
            }
        }

        private void addLeaf(Value leaf) {
            met.add(leaf);
            if (!items || leaf.kind != ROW) {
                return;
            }
            for (Value item = leaf.first; item != null && !met.overfull; item = item.next) {
                met.add(item);
            }
        }
    }

    /** Values, each with the place where it stood when the list was made. */
    private static final class ValueList {
        private final Value[] values;
        private final int[] origins;
        // Merging copies into these, so that sorting makes no arrays.
        private final Value[] spareValues;
        private final int[] spareOrigins;
        int size;
        boolean overfull;

        ValueList() {
            values = new Value[MOST_VALUES];
            origins = new int[MOST_VALUES];
            spareValues = new Value[MOST_VALUES];
            spareOrigins = new int[MOST_VALUES];
        }

        void clear() {
            size = 0;
            overfull = false;
        }

        void add(Value added) {
            if (size >= values.length) {
                overfull = true;
                return;
            }
            values[size] = added;
            origins[size] = size;
            size++;
        }

        Value valueAt(int k) {
            return k >= 0 && k < size ? values[k] : null;
        }

        int originAt(int k) {
            return k >= 0 && k < size ? origins[k] : -1;
        }

        void arrange() {
            for (int width = 1; width < size; width *= 2) {
                for (int low = 0; low + width < size; low += 2 * width) {
                    mergeRuns(low, low + width, Math.min(low + 2 * width, size));
                }
            }
        }

        private void mergeRuns(int low, int middle, int high) {
            if (Order.ofValues(valueAt(middle - 1), valueAt(middle), 1) <= 0) {
                return;
            }
            int lefts = middle - low;
            for (int i = 0; i < lefts; i++) {
                spareValues[i] = values[low + i];
                spareOrigins[i] = origins[low + i];
            }
            int left = 0;
            int right = middle;
            for (int to = low; to < high && left < lefts; to++) {
                // Only a right one that is less goes ahead: those that are the same keep their order.
                if (right < high && Order.ofValues(values[right], spareValues[left], 1) < 0) {
                    values[to] = values[right];
                    origins[to] = origins[right];
                    right++;
                } else {
                    values[to] = spareValues[left];
                    origins[to] = spareOrigins[left];
                    left++;
                }
            }
        }

        /** How many different values there are; the list must be sorted. */
        int countDifferent() {
            int different = 0;
            for (int k = 0; k < size; k++) {
                if (k == 0 || Order.ofValues(values[k - 1], values[k], 1) != 0) {
                    different++;
                }
            }
            return different;
        }

        /** Whether some value is the same as one of the other list; both must be sorted. */
        boolean sharesWith(ValueList other) {
            int mine = 0;
            int theirs = 0;
            while (mine < size && theirs < other.size) {
                int answer = Order.ofValues(values[mine], other.values[theirs], 1);
                if (answer == 0) {
                    return true;
                }
                if (answer < 0) {
                    mine++;
                } else {
                    theirs++;
                }
            }
            return false;
        }
    }
}
