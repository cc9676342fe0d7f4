/** Calls on a tree with keys, values and digests as rows of four numbers. */
final class Rows {
    static final long[] EMPTY = new long[4];

    /** None of 0 .. 3: the ones beside them, the extremes, and some that wrap around when doubled or more. */
    static final int[] NO_NUMBERS = {
        -1, 4, -2, 5, -4, 8, Integer.MIN_VALUE, Integer.MIN_VALUE + 1, Integer.MAX_VALUE,
        1 << 30, (1 << 30) + 1, -(1 << 30)
    };

    static void key(HashTree x, long[] key) {
        x.key(key[0], key[1], key[2], key[3]);
    }

    static void key(Model model, long[] key) {
        model.key(key[0], key[1], key[2], key[3]);
    }

    /** Sets the value of a key, which then is THE KEY. */
    static int set(HashTree x, long[] key, long... value) {
        key(x, key);
        return x.set(value[0], value[1], value[2], value[3]);
    }

    static int set(Model model, long[] key, long... value) {
        key(model, key);
        return model.set(value[0], value[1], value[2], value[3]);
    }

    static long[] row(long... numbers) {
        return numbers;
    }

    /** A row of zeros but for one bit. */
    static long[] bit(int bit) {
        return flipped(EMPTY, bit);
    }

    static long[] flipped(long[] row, int bit) {
        long[] flipped = row.clone();
        flipped[bit / 64] ^= Long.MIN_VALUE >>> bit % 64;
        return flipped;
    }

    static long[] value(HashTree x) {
        return row(x.value(0), x.value(1), x.value(2), x.value(3));
    }

    static long[] root(HashTree x) {
        return row(x.root(0), x.root(1), x.root(2), x.root(3));
    }

    static long[] root(Model model) {
        return row(model.root(0), model.root(1), model.root(2), model.root(3));
    }

    static long[] sibling(HashTree x, int k) {
        return row(x.sibling(k, 0), x.sibling(k, 1), x.sibling(k, 2), x.sibling(k, 3));
    }

    static long[] end(HashTree x, int what) {
        return row(x.endNumber(what, 0), x.endNumber(what, 1), x.endNumber(what, 2), x.endNumber(what, 3));
    }

    /** THE PROOF: its end, and the siblings of all levels that there are and of those beside them. */
    static long[] proof(HashTree x) {
        long[] all = new long[1 + 8 + 259 * 4];
        all[0] = x.ending();
        System.arraycopy(end(x, 0), 0, all, 1, 4);
        System.arraycopy(end(x, 1), 0, all, 5, 4);
        for (int k = -1; k <= 257; k++) {
            System.arraycopy(sibling(x, k), 0, all, 9 + 4 * (k + 1), 4);
        }
        return all;
    }

    /** What the tree holds, as THE KEY and the root tell it. */
    static long[] tree(HashTree x) {
        long[] value = value(x);
        long[] root = root(x);
        return row(x.count(), x.has() ? 1 : 0,
            value[0], value[1], value[2], value[3], root[0], root[1], root[2], root[3]);
    }

    /** Keys that part early and late, a new one for each n. */
    static long[] spread(int n) {
        return row(n % 3 == 0 ? 0 : n * 0x9e3779b97f4a7c15L, n % 5, n % 7 == 0 ? -1 : n, n);
    }

    static HashTree treeOf(int keys) {
        HashTree x = new HashTree();
        for (int n = 0; n < keys; n++) {
            set(x, spread(n), n, 0, 0, 0);
        }
        return x;
    }

    private Rows() {
    }
}
