import java.util.Arrays;

/**
 * Keys of 256 bits with values of 256 bits in a tree of digests. Each set of keys has one root,
 * and for each key a row of digests proves its value, or that it has none, against that root.
 *
 * <p>Only the branches where keys part are held, so that a stretch of levels in which all keys go
 * the same way costs no objects; its digests are made when a hash at a higher level is wanted.
 */
public final class HashTree {
    public static final int BAD = -1;
    public static final int NO = -2;
    public static final int FULL = -3;

    private static final int BITS = 256;
    private static final int NUMBERS = 4;
    private static final int MOST_KEYS = 512;
    private static final int MOST_BYTES = 8;
    private static final int MOST_TIMES = 500;

    private static final int END_NONE = 0;
    private static final int END_KEY = 1;
    private static final int END_OTHER = 2;
    private static final int END_PARTS = 2;

    private static final int MARK_LEAF = 0;
    private static final int MARK_BRANCH = 1;

    /** The hash of no keys. */
    private static final long[] EMPTY = {0L, 0L, 0L, 0L};

    /** Levels grow along a way down, so it has a branch for each bit and a leaf at the most. */
    private static final int LONGEST_WAY = BITS + 1;

    /** A refresh opens and closes each node once; there are fewer than two for each key. */
    private static final int MOST_STEPS = 4 * MOST_KEYS;

    private final long[] key = new long[NUMBERS];
    private final Digester digester = new Digester();
    private final Node[] open = new Node[LONGEST_WAY];
    private Node top = null;
    private int count = 0;

    /** Levels without a sibling, and those whose sibling is empty, hold 0. */
    private final long[] siblings = new long[BITS * NUMBERS];
    private final long[] lastSibling = new long[NUMBERS];
    private final long[] end = new long[END_PARTS * NUMBERS];
    private int ending = BAD;

    public HashTree() {
    }

    public void key(long a, long b, long c, long d) {
        fill(key, a, b, c, d);
    }

    public int set(long a, long b, long c, long d) {
        Leaf there = leafOfKey();
        if (there != null) {
            stalePath(BITS);
            there.fresh = false;
            fill(there.value, a, b, c, d);
            return 0;
        }
        if (count >= MOST_KEYS) {
            return FULL;
        }
        Leaf made = new Leaf(key.clone());
        fill(made.value, a, b, c, d);
        insert(made);
        count++;
        return 1;
    }

    public int remove() {
        if (leafOfKey() == null) {
            return NO;
        }
        Branch parent = stalePath(BITS);
        if (parent == null) {
            top = null;
        } else {
            Node other = parent.half(!isOne(key, parent.level));
            other.fresh = false;
            hang(stalePath(parent.level), other);
        }
        count--;
        return 1;
    }

    public boolean has() {
        return leafOfKey() != null;
    }

    public long value(int i) {
        Leaf leaf = leafOfKey();
        return leaf != null && isNumber(i) ? leaf.value[i] : 0L;
    }

    public int count() {
        return count;
    }

    public long root(int i) {
        if (top == null || !isNumber(i)) {
            return 0L;
        }
        refresh();
        return top.hash[i];
    }

    public int prove() {
        Arrays.fill(siblings, 0L);
        Arrays.fill(end, 0L);
        ending = END_NONE;
        Leaf nearest = nearestLeaf();
        if (nearest == null) {
            return 0;
        }
        refresh();
        int parting = partingLevel(key, nearest.key);
        int level = 0;
        Node node = top;
        while (node instanceof Branch branch && branch.level < parting) {
            boolean one = isOne(key, branch.level);
            keepSibling(branch.level, branch.half(!one).hash);
            level = branch.level + 1;
            node = branch.half(one);
        }
        if (node instanceof Branch branch) {
            hashAt(branch, parting + 1, lastSibling);
            keepSibling(parting, lastSibling);
            return parting + 1;
        }
        keepEnd(nearest);
        ending = parting == BITS ? END_KEY : END_OTHER;
        return level;
    }

    public long sibling(int k, int i) {
        return k >= 0 && k < BITS && isNumber(i) ? siblings[k * NUMBERS + i] : 0L;
    }

    public int ending() {
        return ending;
    }

    public long endNumber(int what, int i) {
        return what >= 0 && what < END_PARTS && isNumber(i) ? end[what * NUMBERS + i] : 0L;
    }

    public long digest(long bytes, int n, int times, int i) {
        if (n < 0 || n > MOST_BYTES || times < 0 || times > MOST_TIMES || !isNumber(i)) {
            return 0L;
        }
        digester.begin();
        for (int time = 0; time < times; time++) {
            digester.takeLowest(bytes, n);
        }
        digester.finish();
        return digester.number(i);
    }

    private static boolean isNumber(int i) {
        return i >= 0 && i < NUMBERS;
    }

    private static void fill(long[] row, long a, long b, long c, long d) {
        row[0] = a;
        row[1] = b;
        row[2] = c;
        row[3] = d;
    }

    private static boolean isOne(long[] bits, int level) {
        return (bits[level >> 6 & 3] << (level & 63)) < 0L;
    }

    /** The first bit in which two keys differ; BITS when there is none. */
    private static int partingLevel(long[] one, long[] other) {
        for (int i = 0; i < NUMBERS; i++) {
            long differing = one[i] ^ other[i];
            if (differing != 0L) {
                return i * 64 + Long.numberOfLeadingZeros(differing);
            }
        }
        return BITS;
    }

    /** No other leaf agrees with THE KEY in more bits: wherever keys part, it goes THE KEY's way. */
    private Leaf nearestLeaf() {
        Node node = top;
        while (node instanceof Branch branch) {
            node = branch.half(isOne(key, branch.level));
        }
        return node instanceof Leaf leaf ? leaf : null;
    }

    private Leaf leafOfKey() {
        Leaf nearest = nearestLeaf();
        return nearest != null && partingLevel(key, nearest.key) == BITS ? nearest : null;
    }

    /**
     * The last branch on THE KEY's way that parts keys before this level, null if none does. All
     * branches up to it become stale, since the caller is about to change what is below them.
     */
    private Branch stalePath(int level) {
        Branch last = null;
        Node node = top;
        while (node instanceof Branch branch && branch.level < level) {
            branch.fresh = false;
            last = branch;
            node = branch.half(isOne(key, branch.level));
        }
        return last;
    }

    private void insert(Leaf leaf) {
        Leaf nearest = nearestLeaf();
        if (nearest == null) {
            top = leaf;
            return;
        }
        int level = partingLevel(key, nearest.key);
        Branch above = stalePath(level);
        Node below = above == null ? top : above.half(isOne(key, above.level));
        below.fresh = false;
        boolean one = isOne(key, level);
        hang(above, new Branch(leaf.key, level, one ? below : leaf, one ? leaf : below));
    }

    private void hang(Branch above, Node node) {
        if (above == null) {
            top = node;
        } else {
            above.putHalf(isOne(key, above.level), node);
        }
    }

    /**
     * Makes all hashes fresh, halves before the branches that need them. The way is kept in a row
     * and not in recursion, as it can be 257 nodes long.
     */
    private void refresh() {
        int depth = 0;
        if (top != null && !top.fresh) {
            open[0] = top;
            depth = 1;
        }
        for (int step = 0; depth > 0 && step < MOST_STEPS; step++) {
            Node node = open[depth - 1];
            Node stale = node instanceof Branch branch ? branch.staleHalf() : null;
            if (stale != null && depth < LONGEST_WAY) {
                open[depth] = stale;
                depth++;
            } else {
                hashAt(node, depth > 1 ? open[depth - 2].level + 1 : 0, node.hash);
                node.fresh = true;
                depth--;
            }
        }
    }

    /** The hash of a node's keys at a level not below its own; the hashes of its halves are fresh. */
    private void hashAt(Node node, int level, long[] into) {
        if (node instanceof Leaf leaf) {
            digester.join(MARK_LEAF, leaf.key, leaf.value, into);
        } else if (node instanceof Branch branch) {
            digester.join(MARK_BRANCH, branch.zero.hash, branch.one.hash, into);
            for (int above = branch.level - 1; above >= level; above--) {
                boolean one = isOne(branch.key, above);
                digester.join(MARK_BRANCH, one ? EMPTY : into, one ? into : EMPTY, into);
            }
        }
    }

    private void keepSibling(int level, long[] hash) {
        System.arraycopy(hash, 0, siblings, level * NUMBERS, NUMBERS);
    }

    /** Copied, since THE PROOF stays as it is when the tree changes. */
    private void keepEnd(Leaf leaf) {
        System.arraycopy(leaf.key, 0, end, 0, NUMBERS);
        System.arraycopy(leaf.value, 0, end, NUMBERS, NUMBERS);
    }

    /** A set of keys that part at a level, or one key, whose level then is behind the last bit. */
    private abstract static class Node {
        /** All keys of the node agree with it in the bits before the level. */
        final long[] key;
        final int level;

        /** When fresh, the hash at the level behind that of the branch above, or at 0 at the top. */
        final long[] hash = new long[NUMBERS];
        boolean fresh = false;

        Node(long[] key, int level) {
            this.key = key;
            this.level = level;
        }
    }

    private static final class Leaf extends Node {
        final long[] value = new long[NUMBERS];

        Leaf(long[] key) {
            super(key, BITS);
        }
    }

    private static final class Branch extends Node {
        Node zero;
        Node one;

        Branch(long[] key, int level, Node zero, Node one) {
            super(key, level);
            this.zero = zero;
            this.one = one;
        }

        Node half(boolean ofOne) {
            return ofOne ? one : zero;
        }

        void putHalf(boolean ofOne, Node node) {
            if (ofOne) {
                one = node;
            } else {
                zero = node;
            }
        }

        /** A half whose hash is not fresh, null when both are. */
        Node staleHalf() {
            if (!zero.fresh) {
                return zero;
            }
            return one.fresh ? null : one;
        }
    }

    /** THE DIGEST, of bytes taken one by one, so that no row has to hold them all. */
    private static final class Digester {
        private static final int WORDS = 8;
        private static final int BLOCK_WORDS = 16;
        private static final int ROUNDS = 64;
        private static final int IN_BLOCK = 63;
        private static final int LENGTH_PLACE = 56;

        private static final int[] FIRST_WORDS = {
            0x6a09e667, 0xbb67ae85, 0x3c6ef372, 0xa54ff53a,
            0x510e527f, 0x9b05688c, 0x1f83d9ab, 0x5be0cd19
        };

        private static final int[] K = {
            0x428a2f98, 0x71374491, 0xb5c0fbcf, 0xe9b5dba5, 0x3956c25b, 0x59f111f1, 0x923f82a4, 0xab1c5ed5,
            0xd807aa98, 0x12835b01, 0x243185be, 0x550c7dc3, 0x72be5d74, 0x80deb1fe, 0x9bdc06a7, 0xc19bf174,
            0xe49b69c1, 0xefbe4786, 0x0fc19dc6, 0x240ca1cc, 0x2de92c6f, 0x4a7484aa, 0x5cb0a9dc, 0x76f988da,
            0x983e5152, 0xa831c66d, 0xb00327c8, 0xbf597fc7, 0xc6e00bf3, 0xd5a79147, 0x06ca6351, 0x14292967,
            0x27b70a85, 0x2e1b2138, 0x4d2c6dfc, 0x53380d13, 0x650a7354, 0x766a0abb, 0x81c2c92e, 0x92722c85,
            0xa2bfe8a1, 0xa81a664b, 0xc24b8b70, 0xc76c51a3, 0xd192e819, 0xd6990624, 0xf40e3585, 0x106aa070,
            0x19a4c116, 0x1e376c08, 0x2748774c, 0x34b0bcb5, 0x391c0cb3, 0x4ed8aa4a, 0x5b9cca4f, 0x682e6ff3,
            0x748f82ee, 0x78a5636f, 0x84c87814, 0x8cc70208, 0x90befffa, 0xa4506ceb, 0xbef9a3f7, 0xc67178f2
        };

        private final int[] words = new int[WORDS];
        private final int[] w = new int[ROUNDS];
        private int length = 0;

        void begin() {
            System.arraycopy(FIRST_WORDS, 0, words, 0, WORDS);
            length = 0;
        }

        void take(int value) {
            // Four bytes push out all that an earlier block left in the word.
            int place = (length & IN_BLOCK) >> 2;
            w[place] = w[place] << 8 | value & 255;
            length++;
            if ((length & IN_BLOCK) == 0) {
                spread();
                mix();
            }
        }

        void takeLowest(long bytes, int n) {
            for (int place = n - 1; place >= 0; place--) {
                take((int) (bytes >>> 8 * place));
            }
        }

        void finish() {
            long bits = 8L * length;
            take(128);
            int zeros = LENGTH_PLACE - length & IN_BLOCK;
            for (int i = 0; i < zeros; i++) {
                take(0);
            }
            for (int shift = 56; shift >= 0; shift -= 8) {
                take((int) (bits >>> shift));
            }
        }

        long number(int i) {
            int high = 2 * i & WORDS - 1;
            return (long) words[high] << 32 | words[high + 1] & 0xffffffffL;
        }

        /** The digest of a byte and two rows of numbers; the answer's row may be one of them. */
        void join(int mark, long[] left, long[] right, long[] into) {
            begin();
            take(mark);
            for (int i = 0; i < NUMBERS; i++) {
                takeLowest(left[i], 8);
            }
            for (int i = 0; i < NUMBERS; i++) {
                takeLowest(right[i], 8);
            }
            finish();
            for (int i = 0; i < NUMBERS; i++) {
                into[i] = number(i);
            }
        }

        private void spread() {
            for (int t = BLOCK_WORDS; t < ROUNDS; t++) {
                int x = w[t - 15];
                int y = w[t - 2];
                int s0 = Integer.rotateRight(x, 7) ^ Integer.rotateRight(x, 18) ^ x >>> 3;
                int s1 = Integer.rotateRight(y, 17) ^ Integer.rotateRight(y, 19) ^ y >>> 10;
                w[t] = w[t - 16] + s0 + w[t - 7] + s1;
            }
        }

        private void mix() {
            int a = words[0];
            int b = words[1];
            int c = words[2];
            int d = words[3];
            int e = words[4];
            int f = words[5];
            int g = words[6];
            int h = words[7];
            for (int t = 0; t < ROUNDS; t++) {
                int turnedE = Integer.rotateRight(e, 6) ^ Integer.rotateRight(e, 11) ^ Integer.rotateRight(e, 25);
                int turnedA = Integer.rotateRight(a, 2) ^ Integer.rotateRight(a, 13) ^ Integer.rotateRight(a, 22);
                int x = h + turnedE + (e & f ^ ~e & g) + K[t] + w[t];
                int y = turnedA + (a & b ^ a & c ^ b & c);
                h = g;
                g = f;
                f = e;
                e = d + x;
                d = c;
                c = b;
                b = a;
                a = x + y;
            }
            words[0] += a;
            words[1] += b;
            words[2] += c;
            words[3] += d;
            words[4] += e;
            words[5] += f;
            words[6] += g;
            words[7] += h;
        }
    }
}
