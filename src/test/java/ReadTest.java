/** Promise 3: read, with its slots, lengths, the tape and what stays; the bytes' own bounds are BytesTest's. */
public final class ReadTest {
    private static final byte[] ONE = Check.encode(Check.doc("a", 1));

    public static void main(String[] args) {
        elementsAreCounted();
        slotsZeroToThree();
        noSuchSlotDoesNothing();
        lengthsOnTheTape();
        lengthBelowZeroOrTooMuchDoesNothing();
        noSuchSlotAheadOfWrongBytes();
        tapeIsEmptyBehindADocument();
        tapeIsEmptyBehindNone();
        oldBytesAreNotThere();
        slotStaysWhenThereIsNone();
        restStays();
        otherSlotsStay();
        Check.end();
    }

    private static void counted(String what, byte[] bytes, int want) {
        Check.due(what, Check.readBytes(new ValueOrder(), 0, bytes), want);
    }

    private static void elementsAreCounted() {
        counted("no elements", Check.encode(Check.doc()), 0);
        counted("one", Check.encode(Check.doc("a", 1)), 1);
        counted("all kinds", Check.encode(Check.doc("a", 1, "b", 2L, "c", true, "d", null, "e", "text",
                "f", Check.doc("x", 1, "y", 2), "g", Check.row(1, 2, 3))), 7);
        Check.Doc many = Check.doc();
        for (int i = 0; i < 300; i++) {
            many.with(Integer.toString(i), null);
        }
        counted("300 elements", Check.encode(many), 300);
    }

    private static void slotsZeroToThree() {
        int[] slots = {-2, -1, 0, 1, 2, 3, 4, 5, Integer.MIN_VALUE, Integer.MAX_VALUE};
        for (int slot : slots) {
            ValueOrder x = new ValueOrder();
            boolean there = slot >= 0 && slot <= 3;
            Check.due("read(" + slot + ", ..)", Check.readBytes(x, slot, ONE), there ? 1 : -2);
            for (int other = 0; other < 4; other++) {
                Check.due("what slot " + other + " holds", x.compare(other, there && slot == 0 ? 1 : 0),
                        other == slot ? 1 : 0);
            }
        }
    }

    /** "-2, doing nothing, when there is no such slot". */
    private static void noSuchSlotDoesNothing() {
        for (int slot : new int[] {-1, 4, Integer.MIN_VALUE, Integer.MAX_VALUE}) {
            for (int n : new int[] {-1, 0, 1, 24, State.onTape(), State.onTape() + 1}) {
                Check.due("read(" + slot + ", " + n + ")", State.busy().read(slot, n), -2);
                State.stays("read(" + slot + ", " + n + ")", State::busy, x -> x.read(slot, n));
            }
        }
    }

    private static ValueOrder fed(byte[] bytes) {
        ValueOrder x = new ValueOrder();
        Check.feedAll(x, bytes);
        return x;
    }

    /** Documents that fill 20, 40 and 2,000 bytes: all there are, and one more and one less. */
    private static void lengthsOnTheTape() {
        for (int length : new int[] {20, 40, 1980, 2000}) {
            byte[] bytes = Check.encode(Check.doc("t", "x".repeat(length - 13)));
            Check.due("bytes", bytes.length, length);
            Check.due("read of all " + length, fed(bytes).read(0, length), 1);
            Check.due("read of one more than " + length, fed(bytes).read(0, length + 1), -2);
            Check.due("read of one less than " + length, fed(bytes).read(0, length - 1), -1);
            Check.due("read(0, 0)", fed(bytes).read(0, 0), -1);
            Check.due("read(0, 1)", fed(bytes).read(0, 1), -1);
            Check.due("read(0, -1)", fed(bytes).read(0, -1), -2);
        }
        Check.due("read(0, 0) of no bytes", new ValueOrder().read(0, 0), -1);
        Check.due("read(0, 1) of no bytes", new ValueOrder().read(0, 1), -2);
        Check.due("read(0, -1) of no bytes", new ValueOrder().read(0, -1), -2);
    }

    /** "-2, doing nothing, when .. n is below 0 or more than there are". */
    private static void lengthBelowZeroOrTooMuchDoesNothing() {
        int there = State.onTape();
        int[] lengths = {-1, -2, -24, there + 1, there + 2, 2000, 2001, Integer.MIN_VALUE, Integer.MAX_VALUE};
        for (int slot = 0; slot < 4; slot++) {
            int into = slot;
            for (int n : lengths) {
                Check.due("read(" + slot + ", " + n + ")", State.busy().read(slot, n), -2);
                State.stays("read(" + slot + ", " + n + ")", State::busy, x -> x.read(into, n));
            }
        }
    }

    private static void noSuchSlotAheadOfWrongBytes() {
        ValueOrder x = new ValueOrder();
        x.feed(-1, -1, -1, -1, -1);
        Check.due("wrong bytes, no slot", x.read(4, 20), -2);
        Check.due("wrong bytes, no slot", x.read(-1, 20), -2);
        Check.due("they are still there", x.feed(0, 0, 0, 0, 0), 40);
        Check.due("wrong bytes", x.read(3, 20), -1);
    }

    private static void tapeIsEmpty(ValueOrder x) {
        Check.due("read of a byte more", x.read(0, 1), -2);
        Check.due("path of a byte more", x.path(1), -2);
        Check.due("feed", x.feed(0x0C000000, 0x10620007, 0, 0, 0), 20);
        Check.due("a document that was fed then", x.read(2, 12), 1);
    }

    /** Those behind the first n are gone too. */
    private static void tapeIsEmptyBehindADocument() {
        for (int more = 0; more < 4; more++) {
            ValueOrder x = fed(ONE);
            for (int i = 0; i < more; i++) {
                x.feed(-1, -1, -1, -1, -1);
            }
            Check.due("read", x.read(0, 12), 1);
            tapeIsEmpty(x);
        }
    }

    private static void tapeIsEmptyBehindNone() {
        for (int n : new int[] {0, 1, 4, 5, 11, 13, 20, 39, 40}) {
            ValueOrder x = fed(ONE);
            x.feed(-1, -1, -1, -1, -1);
            Check.due("read(0, " + n + ")", x.read(0, n), -1);
            tapeIsEmpty(x);
        }
    }

    /** What lay on the tape before serves neither as bytes that are there nor as a document's end. */
    private static void oldBytesAreNotThere() {
        byte[] longer = Check.encode(Check.doc("t", "0123456789abcdefghijklmnopq"));
        Check.due("bytes", longer.length, 40);
        ValueOrder x = fed(longer);
        Check.due("read", x.read(0, 40), 1);
        int[] n = Check.numbersAt(longer, 0);
        Check.due("feed", x.feed(n[0], n[1], n[2], n[3], n[4]), 20);
        Check.due("read of bytes that are gone", x.read(0, 40), -2);
        Check.due("read of a document whose end is gone", x.read(0, 20), -1);
    }

    /** "-1 when they are none (the slot stays)". */
    private static void slotStaysWhenThereIsNone() {
        for (int slot = 0; slot < 4; slot++) {
            ValueOrder x = new ValueOrder();
            Check.readDoc(x, slot, Check.doc("a", 1, "b", Check.doc("c", 2)));
            Check.readDoc(x, 3 - slot, Check.doc("a", 1, "b", Check.doc("c", 2)));
            byte[] almost = Check.encode(Check.doc("a", 1, "b", Check.doc("c", 3), "a", 4));
            Check.due("a document but for its last name", Check.readBytes(x, slot, almost), -1);
            Check.due("read of no bytes", x.read(slot, 0), -1);
            Check.due("the slot stays", x.compare(slot, 3 - slot), 0);
            Check.takePath(x, "b.c");
            x.list(0, slot, false);
            Check.due("its values stay", x.value(0, 0, 2), 2);
        }
    }

    private static ValueOrder busyWithEmptyTape() {
        ValueOrder x = State.busy();
        x.path(0);
        return x;
    }

    /** Slots, path and lists: bytes that are no document change none of them, and a document its slot alone. */
    private static void restStays() {
        for (int slot = 0; slot < 4; slot++) {
            int into = slot;
            State.stays("read of wrong bytes", ReadTest::busyWithEmptyTape,
                    x -> Check.readBytes(x, into, Check.bytes(5, 0, 0, 0, 1)));
            State.stays("read of no bytes", ReadTest::busyWithEmptyTape, x -> x.read(into, 0));
        }
        State.stays("read of what the slot holds", ReadTest::busyWithEmptyTape,
                x -> Check.readDoc(x, 1, Check.doc("a", 2, "b", 3)));
    }

    private static void otherSlotsStay() {
        ValueOrder x = new ValueOrder();
        for (int slot = 0; slot < 4; slot++) {
            Check.readDoc(x, slot, Check.doc("a", slot));
        }
        Check.readDoc(x, 2, Check.doc("a", 9));
        Check.takePath(x, "a");
        for (int slot = 0; slot < 4; slot++) {
            x.list(0, slot, false);
            Check.due("slot " + slot, x.value(0, 0, 2), slot == 2 ? 9 : slot);
        }
    }
}
