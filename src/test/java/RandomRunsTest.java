import java.util.ArrayList;
import java.util.Arrays;
import java.util.List;
import java.util.Random;

/** All promises together: runs of calls, the same at every start, against the model. */
public final class RandomRunsTest {
    private static final int RUNS = 400;
    private static final String[] NAMES = {"a", "b", "0", "1", "2", "10", "00", "", "\u00e9", "a.b"};
    private static final String[] STEPS = {"a", "b", "0", "1", "0", "a", "2", "10", "00", "\u00e9", ""};
    private static final String[] TEXTS = {"", "a", "b", "aa", "\u0000", "\u00e9", "\u20ac", "a\u0000"};

    private final Random random;
    private final ValueOrder x = new ValueOrder();
    private final Model model = new Model();
    private int calls = 0;

    private RandomRunsTest(int seed) {
        random = new Random(seed);
    }

    public static void main(String[] args) {
        for (int seed = 0; seed < RUNS; seed++) {
            new RandomRunsTest(seed).run();
        }
        Check.end();
    }

    private void run() {
        while (calls < 380) {
            int choice = random.nextInt(20);
            if (choice < 5) {
                readSome(slot());
            } else if (choice < 8) {
                pathSome();
            } else if (choice < 11) {
                listSome();
            } else {
                askSome(choice);
            }
        }
    }

    private void due(String call, long got, long want) {
        calls++;
        Check.due(call, got, want);
    }

    private boolean chance(int outOf) {
        return random.nextInt(outOf) == 0;
    }

    private int slot() {
        return chance(30) ? random.nextInt(9) - 3 : random.nextInt(4);
    }

    private int which() {
        return chance(30) ? random.nextInt(5) - 2 : random.nextInt(2);
    }

    private int place() {
        return chance(3) ? random.nextInt(40) - 1 : random.nextInt(4);
    }

    private Object randomValue(int depth) {
        int kinds = depth >= 7 ? 5 : 12;
        switch (random.nextInt(kinds)) {
            case 0:
                return random.nextInt(4) - 1;
            case 1:
                return (long) (random.nextInt(4) - 1);
            case 2:
                return random.nextBoolean();
            case 3:
                return null;
            case 4:
                return TEXTS[random.nextInt(TEXTS.length)];
            case 5:
            case 6:
            case 7:
            case 8:
                return randomDoc(depth + 1);
            default:
                List<Object> items = new ArrayList<>();
                int length = chance(4) ? random.nextInt(12) : random.nextInt(4);
                for (int i = 0; i < length; i++) {
                    items.add(randomValue(depth + 1));
                }
                return items;
        }
    }

    private Check.Doc randomDoc(int depth) {
        Check.Doc made = Check.doc();
        for (String name : NAMES) {
            if (chance(depth < 3 ? 2 : 4)) {
                made.with(name, randomValue(depth));
            }
        }
        return made;
    }

    private void feedBoth(byte[] bytes) {
        for (int start = 0; start < bytes.length; start += 20) {
            int[] n = Check.numbersAt(bytes, start);
            due("feed", x.feed(n[0], n[1], n[2], n[3], n[4]), model.feed(n[0], n[1], n[2], n[3], n[4]));
        }
    }

    private byte[] randomBytes() {
        for (int tries = 0; tries < 1000; tries++) {
            byte[] bytes = Check.encode(randomDoc(1));
            if (bytes.length <= (chance(20) ? 1500 : 260)) {
                return bytes;
            }
        }
        return Check.encode(Check.doc());
    }

    private void readSome(int slot) {
        byte[] bytes = randomBytes();
        if (chance(5)) {
            for (int i = random.nextInt(2); i >= 0; i--) {
                bytes[random.nextInt(bytes.length)] = (byte) (chance(2) ? random.nextInt(256) : random.nextInt(20));
            }
        }
        feedBoth(bytes);
        int n = bytes.length + (chance(30) ? random.nextInt(40) - 20 : 0);
        due("read(" + slot + ", " + n + ")", x.read(slot, n), model.read(slot, n));
    }

    private void pathSome() {
        StringBuilder made = new StringBuilder();
        int steps = chance(20) ? random.nextInt(10) : 1 + random.nextInt(4);
        for (int i = 0; i < steps; i++) {
            made.append(i == 0 ? "" : ".").append(STEPS[random.nextInt(STEPS.length - (chance(20) ? 0 : 1))]);
        }
        byte[] bytes = Check.utf8(made.toString());
        if (bytes.length > 0 && chance(20)) {
            bytes = Arrays.copyOf(bytes, bytes.length - 1 + random.nextInt(3));
        }
        feedBoth(bytes);
        due("path " + made, x.path(bytes.length), model.path(bytes.length));
    }

    private void listSome() {
        int which = which();
        int slot = slot();
        boolean items = random.nextBoolean();
        int count = model.list(which, slot, items);
        due("list", x.list(which, slot, items), count);
        for (int k = 0; k < Math.min(count, 8); k++) {
            int what = random.nextInt(4);
            due("value", x.value(which, k, what), model.value(which, k, what));
        }
    }

    private void askSome(int choice) {
        int which = which();
        int slot = slot();
        int other = slot();
        int k = place();
        int j = place();
        boolean items = random.nextBoolean();
        switch (choice) {
            case 11:
                due("compare", x.compare(slot, other), model.compare(slot, other));
                break;
            case 12:
                due("value", x.value(which, k, j), model.value(which, k, j));
                break;
            case 13:
                due("text", x.text(which, k, j), model.text(which, k, j));
                break;
            case 14:
            case 15:
                due("between", x.between(k, j), model.between(k, j));
                break;
            case 16:
                due("sort", x.sort(which), model.sort(which));
                for (int i = 0; i < 6; i++) {
                    due("from behind sort", x.from(which, i), model.from(which, i));
                }
                break;
            case 17:
                due("from", x.from(which, k), model.from(which, k));
                break;
            default:
                due("meet", x.meet(slot, other, items) ? 1 : 0, model.meet(slot, other, items) ? 1 : 0);
                break;
        }
    }
}
