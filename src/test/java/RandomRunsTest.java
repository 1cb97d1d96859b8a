import java.util.Random;
import java.util.TreeMap;

/** Runs of at most 512 calls on one object, with all methods and wrong arguments, compared with the plain object. */
final class RandomRunsTest {
    private static final int[] WRONG = {-1, 4, 5, 20, 21, 4096, 65536, Integer.MIN_VALUE, Integer.MAX_VALUE};
    private static final TreeMap<String, Integer> SEEN = new TreeMap<>();

    private final Random random;
    private final WordShapes one;
    private final PlainShapes two;
    private final StringBuilder told = new StringBuilder();
    private int calls = 0;

    private RandomRunsTest(Random random, int digits, int points, int plan) {
        this.random = random;
        one = new WordShapes(digits, points, plan);
        two = new PlainShapes(digits, points, plan);
        told.append("new ").append(digits).append(' ').append(points).append(' ').append(plan);
    }

    public static void main(String[] args) {
        Random random = new Random(512);
        for (int run = 0; run < 400; run++) {
            int digits = random.nextInt(10) == 0 ? random.nextInt() : random.nextInt(4);
            int points = random.nextInt(3) == 0 ? random.nextInt(6) : random.nextInt(10) == 0 ? random.nextInt() : 60;
            int plan = random.nextInt(3) == 0 ? random.nextInt(12) : random.nextInt(10) == 0 ? random.nextInt() : 100;
            new RandomRunsTest(random, digits, points, plan).run();
        }
        String[] due = {"again", "byteAt", "byteAt IndexOutOfBoundsException", "count", "count IndexOutOfBoundsException", "end",
            "end IllegalArgumentException", "end IllegalStateException", "fault", "fault IndexOutOfBoundsException", "feed",
            "ordinate", "ordinate IndexOutOfBoundsException", "plan", "plan IndexOutOfBoundsException", "read",
            "read IllegalArgumentException", "read IndexOutOfBoundsException", "same", "same IndexOutOfBoundsException", "write",
            "write IllegalStateException", "write IndexOutOfBoundsException"};
        for (String answer : due) {
            Check.due("often enough: " + answer, SEEN.getOrDefault(answer, 0) > 300 ? 1 : 0, 1);
        }
        Check.finish();
    }

    private void run() {
        // No turn has more than fifty calls.
        while (calls < 460) {
            turn();
        }
    }

    private void turn() {
        int slot = slot();
        int other = slot();
        int i = index();
        int what = what();
        switch (random.nextInt(14)) {
            case 0, 1, 2 -> readText(slot);
            case 3 -> read(random.nextInt(3) == 0 ? slot : 4);
            case 4 -> compare("write " + slot, () -> one.write(slot), () -> two.write(slot));
            case 5 -> compare("again", one::again, two::again);
            case 6 -> compare("same " + slot + " " + other, () -> one.same(slot, other) ? 1 : 0, () -> two.same(slot, other));
            case 7 -> plan(slot, i);
            case 8 -> ordinate(slot, i, what);
            case 9 -> compare("byteAt " + i, () -> one.byteAt(i), () -> two.byteAt(i));
            case 10 -> compare("count " + slot + " " + what, () -> one.count(slot, what), () -> two.count(slot, what));
            case 11 -> writeAndReadAgain(slot, other);
            default -> end(random.nextInt(4) == 0 ? WRONG[random.nextInt(WRONG.length)] : random.nextInt(21));
        }
        compare("fault " + what, () -> one.fault(what), () -> two.fault(what));
        compare("count 0 2", () -> one.count(0, 2), () -> two.count(0, 2));
    }

    private int slot() {
        return random.nextInt(12) == 0 ? WRONG[random.nextInt(WRONG.length)] : random.nextInt(4);
    }

    private int what() {
        return random.nextInt(12) == 0 ? WRONG[random.nextInt(WRONG.length)] : random.nextInt(3);
    }

    private int index() {
        return random.nextInt(12) == 0 ? WRONG[random.nextInt(WRONG.length)] : random.nextInt(random.nextBoolean() ? 4 : 40);
    }

    /** A text of its own, or behind what the tape has already, cut as it should be or otherwise. */
    private void readText(int slot) {
        if (random.nextInt(8) > 0) {
            read(4);
        }
        String text = RandomTexts.next(random, 1 + random.nextInt(2), Math.max(0, random.nextInt(5) - 2));
        byte[] bytes = Check.bytes(text.length() > 600 ? text.substring(0, 600) : text);
        for (int i = 0; i < bytes.length; i += 20) {
            int at = i;
            int[] w = new int[5];
            for (int j = 0; j < 20; j++) {
                w[j / 4] = w[j / 4] << 8 | (at + j < bytes.length ? bytes[at + j] & 255 : random.nextInt(256));
            }
            compare("feed " + w[0] + " " + w[1] + " " + w[2] + " " + w[3] + " " + w[4],
                () -> one.feed(w[0], w[1], w[2], w[3], w[4]), () -> two.feed(w));
        }
        if (bytes.length % 20 != 0) {
            end(random.nextInt(20) == 0 ? random.nextInt(21) : bytes.length % 20);
        }
        read(slot);
        for (int i = 0; i < 3; i++) {
            plan(slot, random.nextInt(8));
            ordinate(slot, random.nextInt(4), random.nextInt(2));
        }
    }

    private void plan(int slot, int i) {
        compare("plan " + slot + " " + i, () -> one.plan(slot, i), () -> two.plan(slot, i));
    }

    private void ordinate(int slot, int i, int what) {
        compare("ordinate " + slot + " " + i + " " + what, () -> one.ordinate(slot, i, what), () -> two.ordinate(slot, i, what));
    }

    private void writeAndReadAgain(int slot, int other) {
        compare("write " + slot, () -> one.write(slot), () -> two.write(slot));
        compare("again", one::again, two::again);
        read(other);
        compare("same " + slot + " " + other, () -> one.same(slot, other) ? 1 : 0, () -> two.same(slot, other));
    }

    private void read(int slot) {
        compare("read " + slot, () -> one.read(slot), () -> two.read(slot));
    }

    private void end(int n) {
        compare("end " + n, () -> one.end(n), () -> two.end(n));
    }

    private void compare(String call, Check.Call first, Check.Call second) {
        calls++;
        told.append("; ").append(call);
        String want = answer(second);
        String got = answer(first);
        if (!got.equals(want)) {
            Check.due(told.toString(), got, want);
        } else {
            Check.due(call, 1, 1);
        }
        String kind = call.split(" ")[0] + (want.endsWith("Exception") ? " " + want : "");
        SEEN.merge(kind, 1, Integer::sum);
    }

    private static String answer(Check.Call call) {
        try {
            return String.valueOf(call.answer());
        } catch (RuntimeException e) {
            return e.getClass().getSimpleName();
        }
    }
}
