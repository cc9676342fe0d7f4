/** Promise 8: root. */
public final class RootTest {
    private static final Check check = new Check();
    private static final long[] EMPTY = new long[4];

    public static void main(String[] args) {
        oneKey();
        twoKeysPartAtEachLevel();
        oneRootWhateverTheWay();
        changesAndTheirUndoing();
        longestWay();
        check.end();
    }

    private static void dueRoot(HashTree x, String what, long[] want) {
        for (int i = 0; i < 4; i++) {
            check.due(what + ": root(" + i + ")", x.root(i), want[i]);
        }
        check.due(what + ": root(-1)", x.root(-1), 0);
        check.due(what + ": root(4)", x.root(4), 0);
    }

    private static void oneKey() {
        HashTree x = new HashTree();
        dueRoot(x, "no key", EMPTY);
        x.key(1, 2, 3, 4);
        x.set(5, 6, 7, 8);
        long[] leaf = Model.join(0, new long[] {1, 2, 3, 4}, new long[] {5, 6, 7, 8});
        dueRoot(x, "one key", leaf);
        x.key(0, 0, 0, 0);
        dueRoot(x, "another key meant", leaf);
        x.key(1, 2, 3, 4);
        x.set(5, 6, 7, 9);
        dueRoot(x, "its value changed", Model.join(0, new long[] {1, 2, 3, 4}, new long[] {5, 6, 7, 9}));
        x.remove();
        dueRoot(x, "it went", EMPTY);
    }

    private static void twoKeysPartAtEachLevel() {
        long[] value = {0, 1, 2, 3};
        for (int level = 0; level < 256; level++) {
            long[] one = {0x5a5a5a5a5a5a5a5aL, -2L, 0x0123456789abcdefL, 77L};
            long[] other = one.clone();
            other[level / 64] ^= Long.MIN_VALUE >>> level % 64;
            HashTree x = new HashTree();
            set(x, one, value);
            x.root(0);
            set(x, other, value);
            long[] leftKey = Model.bit(one, level) ? other : one;
            long[] rightKey = Model.bit(one, level) ? one : other;
            long[] want = Model.join(1, Model.join(0, leftKey, value), Model.join(0, rightKey, value));
            for (int above = level - 1; above >= 0; above--) {
                boolean bit = Model.bit(one, above);
                want = Model.join(1, bit ? EMPTY : want, bit ? want : EMPTY);
            }
            dueRoot(x, "parting at " + level, want);
        }
    }

    private static void set(HashTree x, long[] key, long[] value) {
        x.key(key[0], key[1], key[2], key[3]);
        x.set(value[0], value[1], value[2], value[3]);
    }

    private static long[] keyNumber(int n) {
        return new long[] {n % 3 == 0 ? 0 : n * 0x9e3779b97f4a7c15L, n % 5, n % 7 == 0 ? -1 : n, n};
    }

    private static void oneRootWhateverTheWay() {
        HashTree up = new HashTree();
        HashTree down = new HashTree();
        HashTree about = new HashTree();
        for (int n = 0; n < 100; n++) {
            set(up, keyNumber(n), new long[] {n, 0, 0, n});
            set(down, keyNumber(99 - n), new long[] {99 - n, 0, 0, 99 - n});
            set(about, keyNumber(n * 37 % 150), new long[] {1, 1, 1, 1});
            about.root(n % 4);
        }
        for (int n = 149; n >= 0; n--) {
            set(about, keyNumber(n), new long[] {n, 0, 0, n});
            if (n >= 100) {
                about.remove();
            }
        }
        long[] want = {up.root(0), up.root(1), up.root(2), up.root(3)};
        check.due("the root is not empty", want[0] != 0, true);
        dueRoot(down, "made downwards", want);
        dueRoot(about, "made by a detour", want);
    }

    private static void changesAndTheirUndoing() {
        HashTree x = new HashTree();
        for (int n = 0; n < 20; n++) {
            set(x, keyNumber(n), new long[] {n, 0, 0, n});
        }
        long before = x.root(0);
        for (int n = 0; n < 20; n++) {
            set(x, keyNumber(n), new long[] {n, 0, 0, n + 1});
            check.due("another value, another root " + n, x.root(0) != before, true);
            x.remove();
            check.due("a key less, another root " + n, x.root(0) != before, true);
            x.set(n, 0, 0, n);
            check.due("undone " + n, x.root(0), before);
        }
    }

    /** A key that parts from the others at each of the levels makes the longest way there is. */
    private static void longestWay() {
        HashTree x = new HashTree();
        Model model = new Model();
        x.set(1, 1, 1, 1);
        model.set(1, 1, 1, 1);
        for (int level = 0; level < 256; level++) {
            long[] key = new long[4];
            key[level / 64] = Long.MIN_VALUE >>> level % 64;
            set(x, key, key);
            model.key(key[0], key[1], key[2], key[3]);
            model.set(key[0], key[1], key[2], key[3]);
        }
        check.due("longest way: count", x.count(), 257);
        dueRoot(x, "longest way", new long[] {model.root(0), model.root(1), model.root(2), model.root(3)});
        x.key(0, 0, 0, 0);
        check.due("longest way: prove()", x.prove(), 256);
    }
}
