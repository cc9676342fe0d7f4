import java.nio.ByteBuffer;
import java.security.MessageDigest;
import java.security.NoSuchAlgorithmException;
import java.util.ArrayList;
import java.util.Arrays;
import java.util.List;

/** The document's terms word for word, with sets of keys halved by recursion and the library's SHA-256. */
final class Model {
    static final class Entry {
        final long[] key;
        final long[] value;

        Entry(long[] key, long[] value) {
            this.key = key;
            this.value = value;
        }
    }

    private long[] key = new long[4];
    private final List<Entry> entries = new ArrayList<>();
    private List<long[]> siblings = new ArrayList<>();
    private Entry end = null;
    private int ending = HashTree.BAD;

    void key(long a, long b, long c, long d) {
        key = new long[] {a, b, c, d};
    }

    int set(long a, long b, long c, long d) {
        long[] value = {a, b, c, d};
        Entry there = find();
        entries.remove(there);
        if (there == null && entries.size() == 512) {
            return HashTree.FULL;
        }
        entries.add(new Entry(key, value));
        return there == null ? 1 : 0;
    }

    int remove() {
        return entries.remove(find()) ? 1 : HashTree.NO;
    }

    boolean has() {
        return find() != null;
    }

    long value(int i) {
        Entry there = find();
        return there == null ? 0L : number(there.value, i);
    }

    int count() {
        return entries.size();
    }

    long root(int i) {
        return number(hash(entries, 0), i);
    }

    int prove() {
        siblings = new ArrayList<>();
        List<Entry> atHand = entries;
        for (int level = 0; atHand.size() > 1; level++) {
            siblings.add(hash(half(atHand, level, !bit(key, level)), level + 1));
            atHand = half(atHand, level, bit(key, level));
        }
        end = atHand.isEmpty() ? null : atHand.get(0);
        ending = end == null ? 0 : Arrays.equals(end.key, key) ? 1 : 2;
        return siblings.size();
    }

    long sibling(int k, int i) {
        return k < 0 || k >= siblings.size() ? 0L : number(siblings.get(k), i);
    }

    int ending() {
        return ending;
    }

    long endNumber(int what, int i) {
        if (end == null || what < 0 || what > 1) {
            return 0L;
        }
        return number(what == 0 ? end.key : end.value, i);
    }

    static long[] digest(long bytes, int n, int times) {
        byte[] row = new byte[n * times];
        for (int at = 0; at < row.length; at++) {
            row[at] = (byte) (bytes >>> 8 * (n - 1 - at % n));
        }
        return sha256(row);
    }

    static long[] join(int mark, long[] left, long[] right) {
        ByteBuffer row = ByteBuffer.allocate(65).put((byte) mark);
        for (long number : left) {
            row.putLong(number);
        }
        for (long number : right) {
            row.putLong(number);
        }
        return sha256(row.array());
    }

    static boolean bit(long[] bits, int level) {
        return (bits[level / 64] >>> 63 - level % 64 & 1L) == 1L;
    }

    private static long[] hash(List<Entry> set, int level) {
        if (set.isEmpty()) {
            return new long[4];
        }
        if (set.size() == 1) {
            return join(0, set.get(0).key, set.get(0).value);
        }
        return join(1, hash(half(set, level, false), level + 1), hash(half(set, level, true), level + 1));
    }

    private static List<Entry> half(List<Entry> set, int level, boolean one) {
        List<Entry> half = new ArrayList<>();
        for (Entry entry : set) {
            if (bit(entry.key, level) == one) {
                half.add(entry);
            }
        }
        return half;
    }

    static long[] sha256(byte[] row) {
        try {
            ByteBuffer digest = ByteBuffer.wrap(MessageDigest.getInstance("SHA-256").digest(row));
            return new long[] {digest.getLong(), digest.getLong(), digest.getLong(), digest.getLong()};
        } catch (NoSuchAlgorithmException missing) {
            throw new IllegalStateException(missing);
        }
    }

    private static long number(long[] row, int i) {
        return i < 0 || i > 3 ? 0L : row[i];
    }

    private Entry find() {
        for (Entry entry : entries) {
            if (Arrays.equals(entry.key, key)) {
                return entry;
            }
        }
        return null;
    }
}
