import java.util.Arrays;

/** THE DIGEST among the terms, and promise 13: digest; a method for each sentence of them. */
public final class DigestTest {
    private static final Check check = new Check();
    private static final long BYTES = 0x8182030405f6e7d8L;
    private static final long[] OF_NOTHING = {
        0xe3b0c44298fc1c14L, 0x9afbf4c8996fb924L, 0x27ae41e4649b934cL, 0xa495991b7852b855L
    };
    private static final long[] OF_ABC = {
        0xba7816bf8f01cfeaL, 0x414140de5dae2223L, 0xb00361a396177a9cL, 0xb410ff61f20015adL
    };

    public static void main(String[] args) {
        atMost4000();
        aByte128();
        bytes0To56BehindAMultipleOf64();
        itsLengthInBitsAs8Bytes();
        sumsModulo2To32();
        forEach64BytesInTurn();
        theLowestBytesTheHighestFirst();
        asOftenAsIsSaid();
        numberOfIt();
        bytesNot0To8();
        timesNot0To500();
        numberNot0To3();
        leavesTheRestAlone();
        check.end();
    }

    private static long[] digest(HashTree x, long bytes, int n, int times) {
        return Rows.row(x.digest(bytes, n, times, 0), x.digest(bytes, n, times, 1),
            x.digest(bytes, n, times, 2), x.digest(bytes, n, times, 3));
    }

    private static void dueDigest(HashTree x, long bytes, int n, int times) {
        check.due(n + " bytes " + times + " times", digest(x, bytes, n, times), Model.digest(bytes, n, times));
    }

    private static void atMost4000() {
        check.sentence("THE DIGEST of a row of bytes (at most 4000)");
        HashTree x = new HashTree();
        dueDigest(x, BYTES, 8, 500);
        dueDigest(x, BYTES, 8, 499);
        dueDigest(x, BYTES, 7, 500);
        dueDigest(x, 0, 8, 500);
        dueDigest(x, -1, 8, 500);
        check.due("4008 bytes", digest(x, BYTES, 8, 501), Rows.EMPTY);
        check.due("4500 bytes", digest(x, BYTES, 9, 500), Rows.EMPTY);
        check.due("no bytes", digest(x, BYTES, 0, 0), OF_NOTHING);
    }

    private static void aByte128() {
        check.sentence("behind it come a byte 128");
        HashTree x = new HashTree();
        check.due("behind nothing", digest(x, 0, 0, 0), OF_NOTHING);
        dueDigest(x, 128, 1, 1);
        dueDigest(x, 127, 1, 1);
        dueDigest(x, 129, 1, 1);
        dueDigest(x, 0, 1, 1);
        // It ends the first block, and begins the second.
        dueDigest(x, 128, 1, 63);
        dueDigest(x, 128, 1, 64);
    }

    private static void bytes0To56BehindAMultipleOf64() {
        check.sentence("as many bytes 0 as bring it to 56 bytes behind a multiple of 64");
        HashTree x = new HashTree();
        for (int block = 0; block <= 500; block += 64) {
            for (int beside : new int[] {0, 1, 2, 54, 55, 56, 57, 58, 62, 63}) {
                if (block + beside <= 500) {
                    dueDigest(x, 0xff, 1, block + beside);
                    dueDigest(x, 0, 1, block + beside);
                }
            }
        }
        dueDigest(x, BYTES, 5, 11);
        dueDigest(x, BYTES, 7, 8);
        dueDigest(x, BYTES, 8, 7);
    }

    private static void itsLengthInBitsAs8Bytes() {
        check.sentence("and its length in bits as 8 bytes");
        HashTree x = new HashTree();
        // 248 and 256 bits, and so on: the second byte of the length goes up by one.
        for (int length = 32; length <= 480; length += 32) {
            dueDigest(x, BYTES, 1, length - 1);
            dueDigest(x, BYTES, 1, length);
            dueDigest(x, BYTES, 1, length + 1);
        }
        // 16376, 16384 and 16392 bits: the bit behind half of two bytes.
        dueDigest(x, BYTES, 8, 255);
        dueDigest(x, BYTES, 8, 256);
        dueDigest(x, BYTES, 8, 257);
        dueDigest(x, BYTES, 8, 500);
    }

    /** Rows whose first sum of the block, w[16], is 2^32 - 1, 2^32 and 2^32 + 1. */
    private static void sumsModulo2To32() {
        check.sentence("Eight WORDS (of 32 bits; sums modulo 2^32)");
        HashTree x = new HashTree();
        dueDigest(x, 0x01020304ad95fdb2L, 8, 8);
        dueDigest(x, 0x01020304144f01b5L, 8, 8);
        dueDigest(x, 0x0102030477d7ed58L, 8, 8);
        // In the digest of a key and its value that sum is w[0] + w[9] here.
        for (long w9 = 0xff000000L; w9 <= 0xff000002L; w9++) {
            long[] key = {0xffffff0000000000L, 0, 0, 0};
            long[] value = {w9 << 8, 0, 0, 0};
            HashTree one = new HashTree();
            Rows.set(one, key, value);
            check.due("root with w[9] " + w9, Rows.root(one), Model.join(0, key, value));
        }
        long[] extremes = {0, 1, -1, Long.MIN_VALUE, Long.MAX_VALUE, 0x8000000080000000L, 0x7fffffff7fffffffL};
        for (long bytes : extremes) {
            dueDigest(x, bytes, 8, 8);
            dueDigest(x, bytes, 8, 500);
        }
    }

    /** All lengths that bytes and times can make, so every way in which the last block fills. */
    private static void forEach64BytesInTurn() {
        check.sentence("For each 64 bytes in turn");
        HashTree x = new HashTree();
        for (int n = 0; n <= 8; n++) {
            for (int times = 0; times <= 500; times++) {
                int i = (n + times) % 4;
                check.due("digest(.., " + n + ", " + times + ", " + i + ")",
                    x.digest(BYTES, n, times, i), Model.digest(BYTES, n, times)[i]);
            }
        }
    }

    private static void theLowestBytesTheHighestFirst() {
        check.sentence("13: The DIGEST of the lowest n bytes of bytes, the highest of them first");
        HashTree x = new HashTree();
        check.due("abc", digest(x, 0x616263L, 3, 1), OF_ABC);
        check.due("higher bytes do not count", digest(x, 0x7fffffffff616263L, 3, 1), OF_ABC);
        check.due("nor does a highest bit", digest(x, 0x8000000000616263L, 3, 1), OF_ABC);
        byte[] all = {(byte) 0xf1, 0x22, (byte) 0x93, 0x44, (byte) 0xb5, 0x66, 0x07, (byte) 0x88};
        for (int n = 0; n <= 8; n++) {
            byte[] lowest = Arrays.copyOfRange(all, 8 - n, 8);
            check.due("the lowest " + n, digest(x, 0xf1229344b5660788L, n, 1), Model.sha256(lowest));
        }
    }

    private static void asOftenAsIsSaid() {
        check.sentence("13: as often as is said one behind the other");
        HashTree x = new HashTree();
        check.due("not once", digest(x, BYTES, 8, 0), OF_NOTHING);
        check.due("nothing, often", digest(x, BYTES, 0, 500), OF_NOTHING);
        check.due("twice", digest(x, 0x0102, 2, 2), Model.sha256(new byte[] {1, 2, 1, 2}));
        check.due("thrice", digest(x, 0x0102, 2, 3), Model.sha256(new byte[] {1, 2, 1, 2, 1, 2}));
        check.due("4 bytes twice, as 8 once", digest(x, 0x01020304L, 4, 2), digest(x, 0x0102030401020304L, 8, 1));
        check.due("1 byte 8 times, as 8 once", digest(x, 7, 1, 8), digest(x, 0x0707070707070707L, 8, 1));
        for (int n = 1; n <= 8; n++) {
            dueDigest(x, BYTES, n, 1);
            dueDigest(x, BYTES, n, 499);
            dueDigest(x, BYTES, n, 500);
        }
    }

    private static void numberOfIt() {
        check.sentence("13: number i of it.");
        HashTree x = new HashTree();
        for (int i = 0; i < 4; i++) {
            check.due("of nothing, " + i, x.digest(0, 0, 0, i), OF_NOTHING[i]);
            check.due("of abc, " + i, x.digest(0x616263L, 3, 1, i), OF_ABC[i]);
        }
        check.due("the first again", x.digest(0x616263L, 3, 1, 0), OF_ABC[0]);
    }

    private static void bytesNot0To8() {
        check.sentence("13: 0 when n is not 0 .. 8");
        HashTree x = new HashTree();
        int[] not = {
            -1, 9, -8, 10, 16, 64, 256, 264, Integer.MIN_VALUE, Integer.MIN_VALUE + 8, Integer.MAX_VALUE, 1 << 29
        };
        for (int n : not) {
            check.due(n + " bytes once", digest(x, 1, n, 1), Rows.EMPTY);
            check.due(n + " bytes not once", digest(x, 1, n, 0), Rows.EMPTY);
            check.due(n + " bytes 500 times", digest(x, 1, n, 500), Rows.EMPTY);
        }
        check.due("0 bytes", digest(x, 1, 0, 1), OF_NOTHING);
        dueDigest(x, BYTES, 1, 1);
        dueDigest(x, BYTES, 7, 1);
        dueDigest(x, BYTES, 8, 1);
    }

    private static void timesNot0To500() {
        check.sentence("13: times not 0 .. 500");
        HashTree x = new HashTree();
        int[] not = {
            -1, 501, -500, 502, 512, 1000, Integer.MIN_VALUE, Integer.MIN_VALUE + 500, Integer.MAX_VALUE, 1 << 29
        };
        for (int times : not) {
            check.due("1 byte " + times + " times", digest(x, 1, 1, times), Rows.EMPTY);
            check.due("no byte " + times + " times", digest(x, 1, 0, times), Rows.EMPTY);
            check.due("8 bytes " + times + " times", digest(x, 1, 8, times), Rows.EMPTY);
        }
        check.due("0 times", digest(x, 1, 1, 0), OF_NOTHING);
        dueDigest(x, BYTES, 1, 1);
        dueDigest(x, BYTES, 1, 499);
        dueDigest(x, BYTES, 1, 500);
    }

    private static void numberNot0To3() {
        check.sentence("13: or i not 0 .. 3.");
        HashTree x = new HashTree();
        for (int i : Rows.NO_NUMBERS) {
            check.due("number " + i + " of abc", x.digest(0x616263L, 3, 1, i), 0);
            check.due("number " + i + " of nothing", x.digest(0, 0, 0, i), 0);
        }
        check.due("number 0", x.digest(0x616263L, 3, 1, 0), OF_ABC[0]);
        check.due("number 3", x.digest(0x616263L, 3, 1, 3), OF_ABC[3]);
    }

    private static void leavesTheRestAlone() {
        check.sentence("Nothing is promised beyond the answers and state changes described above");
        HashTree x = new HashTree();
        x.digest(BYTES, 8, 77, 0);
        check.due("a new object stays so", Rows.tree(x), new long[10]);
        check.due("still no prove()", x.ending(), HashTree.BAD);
        x.key(1, 0, 0, 0);
        x.set(1, 2, 3, 4);
        x.digest(BYTES, 3, 7, 0);
        long[] root = Model.join(0, Rows.row(1, 0, 0, 0), Rows.row(1, 2, 3, 4));
        for (int i = 0; i < 4; i++) {
            check.due("root(" + i + ") between digests", x.root(i), root[i]);
            x.digest(BYTES, 9, 7, 0);
            x.digest(BYTES, 8, 7 + i, 0);
        }
        check.due("value", Rows.value(x), Rows.row(1, 2, 3, 4));
        check.due("count()", x.count(), 1);
    }
}
