import java.util.Random;

/** All promises at once: long runs of calls, drawn from fixed seeds, against the model. */
public final class RunsTest {
    private static final int RUNS = 150;
    private static final int CALLS = 512;

    private final Check check;
    private final Random random;
    private final int seed;
    private final int kind;
    private final HashTree x = new HashTree();
    private final Model model = new Model();
    private final long[] key = new long[4];
    private int siblings = 0;

    private RunsTest(Check check, int seed) {
        this.check = check;
        this.seed = seed;
        this.kind = seed % 5;
        this.random = new Random(seed);
    }

    public static void main(String[] args) {
        Check check = new Check();
        check.sentence("All promises, in drawn runs of 512 calls");
        for (int seed = 0; seed < RUNS; seed++) {
            RunsTest run = new RunsTest(check, seed);
            for (int call = 0; call < CALLS; call++) {
                run.oneCall(call);
            }
        }
        check.end();
    }

    private void due(int call, String what, long got, long want) {
        check.due("run " + seed + ", call " + call + ", " + what, got, want);
    }

    private void oneCall(int call) {
        int i = random.nextInt(6) - 1;
        switch (random.nextInt(19)) {
            case 0, 1, 2, 3, 4 -> {
                drawKey();
                x.key(key[0], key[1], key[2], key[3]);
                model.key(key[0], key[1], key[2], key[3]);
            }
            case 5, 6, 7, 8 -> {
                long a = random.nextInt(3);
                long d = random.nextLong();
                due(call, "set", x.set(a, ~d, call, d), model.set(a, ~d, call, d));
            }
            case 9 -> due(call, "remove", x.remove(), model.remove());
            case 10 -> due(call, "has", x.has() ? 1 : 0, model.has() ? 1 : 0);
            case 11 -> due(call, "value " + i, x.value(i), model.value(i));
            case 12 -> due(call, "root " + i, x.root(i), model.root(i));
            case 13 -> {
                siblings = model.prove();
                due(call, "prove", x.prove(), siblings);
            }
            case 14 -> {
                int k = siblings - random.nextInt(siblings + 3) + 1;
                due(call, "sibling " + k + " " + i, x.sibling(k, i), model.sibling(k, i));
            }
            case 15 -> {
                int what = random.nextInt(4) - 1;
                due(call, "endNumber " + what + " " + i, x.endNumber(what, i), model.endNumber(what, i));
            }
            case 16 -> due(call, "ending", x.ending(), model.ending());
            case 17 -> {
                int n = random.nextInt(11) - 1;
                int times = random.nextBoolean() ? random.nextInt(66) - 1 : 495 + random.nextInt(8);
                boolean wrong = n < 0 || n > 8 || times < 0 || times > 500 || i < 0 || i > 3;
                long bytes = random.nextLong();
                due(call, "digest " + bytes + " " + n + " " + times + " " + i,
                    x.digest(bytes, n, times, i), wrong ? 0 : Model.digest(bytes, n, times)[i]);
            }
            default -> due(call, "count", x.count(), model.count());
        }
    }

    /** Kinds of keys that part early, late, at single bits, in few places, or near the last one meant. */
    private void drawKey() {
        switch (kind) {
            case 0 -> fill(random.nextLong(), random.nextLong(), random.nextLong(), random.nextLong());
            case 1 -> fill(0, 0, 0, random.nextInt(64));
            case 2 -> {
                fill(0, 0, 0, 0);
                flipBit(random.nextInt(256));
            }
            case 3 -> fill(-random.nextInt(3), random.nextInt(2), -random.nextInt(2), random.nextInt(3));
            default -> flipBit(random.nextBoolean() ? random.nextInt(256) : 250 + random.nextInt(6));
        }
    }

    private void fill(long a, long b, long c, long d) {
        key[0] = a;
        key[1] = b;
        key[2] = c;
        key[3] = d;
    }

    private void flipBit(int bit) {
        key[bit / 64] ^= Long.MIN_VALUE >>> bit % 64;
    }
}
