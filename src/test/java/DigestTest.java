/** Promise 13: digest. */
public final class DigestTest {
    private static final Check check = new Check();
    private static final long BYTES = 0x8182030405f6e7d8L;

    public static void main(String[] args) {
        HashTree x = new HashTree();
        knownDigests(x);
        everyLength(x);
        wrongInputs(x);
        leavesTheRestAlone(x);
        check.end();
    }

    private static void knownDigests(HashTree x) {
        check.due("of nothing, 0", x.digest(5, 0, 0, 0), 0xe3b0c44298fc1c14L);
        check.due("of nothing, 1", x.digest(5, 0, 7, 1), 0x9afbf4c8996fb924L);
        check.due("of nothing, 2", x.digest(5, 7, 0, 2), 0x27ae41e4649b934cL);
        check.due("of nothing, 3", x.digest(0, 0, 500, 3), 0xa495991b7852b855L);
        check.due("of abc, 0", x.digest(0x616263L, 3, 1, 0), 0xba7816bf8f01cfeaL);
        check.due("of abc, 1", x.digest(0x616263L, 3, 1, 1), 0x414140de5dae2223L);
        check.due("of abc, 2", x.digest(0x616263L, 3, 1, 2), 0xb00361a396177a9cL);
        check.due("of abc, 3", x.digest(0x616263L, 3, 1, 3), 0xb410ff61f20015adL);
        check.due("higher bytes do not count", x.digest(0x7fff616263L, 3, 1, 0), 0xba7816bf8f01cfeaL);
    }

    /** All lengths that bytes and times can make, so every way in which the last block fills. */
    private static void everyLength(HashTree x) {
        for (int n = 0; n <= 8; n++) {
            for (int times = 0; times <= 500; times++) {
                int i = (n + times) % 4;
                check.due("digest(.., " + n + ", " + times + ", " + i + ")",
                    x.digest(BYTES, n, times, i), Model.digest(BYTES, n, times, i));
            }
        }
    }

    private static void wrongInputs(HashTree x) {
        int[] notBytes = {-1, 9, 10, 64, Integer.MIN_VALUE, Integer.MAX_VALUE};
        int[] notTimes = {-1, 501, 512, Integer.MIN_VALUE, Integer.MAX_VALUE};
        int[] notNumbers = {-1, 4, 8, Integer.MIN_VALUE, Integer.MAX_VALUE};
        for (int n : notBytes) {
            check.due("digest(1, " + n + ", 1, 0)", x.digest(1, n, 1, 0), 0);
            check.due("digest(1, " + n + ", 0, 0)", x.digest(1, n, 0, 0), 0);
        }
        for (int times : notTimes) {
            check.due("digest(1, 1, " + times + ", 0)", x.digest(1, 1, times, 0), 0);
            check.due("digest(1, 0, " + times + ", 0)", x.digest(1, 0, times, 0), 0);
        }
        for (int i : notNumbers) {
            check.due("digest(1, 1, 1, " + i + ")", x.digest(1, 1, 1, i), 0);
        }
    }

    private static void leavesTheRestAlone(HashTree x) {
        x.key(1, 0, 0, 0);
        x.set(1, 2, 3, 4);
        long[] want = Model.join(0, new long[] {1, 0, 0, 0}, new long[] {1, 2, 3, 4});
        x.digest(BYTES, 8, 77, 0);
        check.due("root after digest", x.root(2), want[2]);
        x.digest(BYTES, 3, 7, 0);
        check.due("root after another", x.root(3), want[3]);
        check.due("ending after digest", x.ending(), HashTree.BAD);
        check.due("count after digest", x.count(), 1);
        check.due("value after digest", x.value(1), 2);
    }
}
