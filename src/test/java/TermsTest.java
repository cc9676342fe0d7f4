/** "What it is" and "Terms" but for THE DIGEST; a method for each sentence of them. */
public final class TermsTest {
    private static final Check check = new Check();
    private static final long[] SOME = {0x5a5a5a5a5a5a5a5aL, -2L, 0x0123456789abcdefL, 77L};
    private static final long[] VALUE = {0, 1, 2, 3};

    public static void main(String[] args) {
        oneRootWhateverWayItCameAbout();
        provesToWhoeverKnowsTheRoot();
        usedForAtMost512Calls();
        bitsFromTheHighestOne();
        fourNumbersTheFirstOneBits0To63();
        bytesFromTheHighestBitsOn();
        atMost512KeysEachWithAValue();
        withoutKeys32Bytes0();
        withOneTheDigestOfAByte0();
        withMoreTheDigestOfAByte1();
        theRootIsTheHashAtLevel0();
        asLongAsTheSetHasMoreThanOneKey();
        theHashOfTheOtherHalf();
        itsEnd();
        check.end();
    }

    private static long[] leaf(long[] key, long[] value) {
        return Model.join(0, key, value);
    }

    private static void oneRootWhateverWayItCameAbout() {
        check.sentence("each set of keys has one root, whatever way it came about");
        HashTree up = Rows.treeOf(100);
        HashTree down = new HashTree();
        HashTree about = new HashTree();
        for (int n = 0; n < 100; n++) {
            Rows.set(down, Rows.spread(99 - n), 99 - n, 0, 0, 0);
            Rows.set(about, Rows.spread(n * 37 % 150), 1, 1, 1, 1);
            about.root(n % 4);
        }
        for (int n = 149; n >= 0; n--) {
            Rows.set(about, Rows.spread(n), n, 0, 0, 0);
        }
        for (int n = 100; n < 150; n++) {
            about.root(n % 4);
            Rows.key(about, Rows.spread(n));
            about.remove();
        }
        long[] root = Rows.root(up);
        check.due("made downwards", Rows.root(down), root);
        check.due("made by a detour", Rows.root(about), root);
        for (int n = 0; n < 20; n++) {
            Rows.set(up, Rows.spread(n), n, 0, 0, 1);
            check.due("another value, another root " + n, up.root(0) != root[0], true);
            up.remove();
            check.due("a key less, another root " + n, up.root(0) != root[0], true);
            up.set(n, 0, 0, 0);
            check.due("undone " + n, Rows.root(up), root);
        }
        for (int n = 0; n < 100; n++) {
            Rows.key(up, Rows.spread(n));
            up.remove();
        }
        check.due("all went", Rows.root(up), Rows.EMPTY);
    }

    private static void provesToWhoeverKnowsTheRoot() {
        check.sentence("for each key a row of digests proves to whoever knows the root that it has its value, or none");
        HashTree x = Rows.treeOf(60);
        long[] root = Rows.root(x);
        for (int n = 0; n < 120; n++) {
            Rows.key(x, Rows.spread(n));
            int siblings = x.prove();
            check.due("key " + n + " has a value", x.ending() == 1, n < 60);
            long[] hash = x.ending() == 0 ? Rows.EMPTY : leaf(Rows.end(x, 0), Rows.end(x, 1));
            for (int level = siblings - 1; level >= 0; level--) {
                long[] sibling = Rows.sibling(x, level);
                boolean one = Model.bit(Rows.spread(n), level);
                hash = Model.join(1, one ? sibling : hash, one ? hash : sibling);
            }
            check.due("the root by the proof for key " + n, hash, root);
        }
    }

    /** Each call as the 512th one; what a later one answers is free, but it answers. */
    private static void usedForAtMost512Calls() {
        check.sentence("An object is used for at most 512 calls after it has been made");
        for (int last = 0; last < 12; last++) {
            HashTree x = new HashTree();
            Model model = new Model();
            for (int n = 0; n < 255; n++) {
                Rows.set(model, Rows.spread(n), n, n, n, n);
                check.due("set " + n, Rows.set(x, Rows.spread(n), n, n, n, n), 1);
            }
            check.due("call 511, prove()", x.prove(), model.prove());
            dueCall("call 512", last, x, model);
            for (int call = 513; call <= 1100; call++) {
                dueCall("call " + call, (last + call) % 12, x, model);
            }
        }
        HashTree most = new HashTree();
        most.set(0, 0, 0, 0);
        for (int n = 1; n <= 255; n++) {
            check.due("a key of two calls", Rows.set(most, Rows.spread(n), n, 0, 0, 0), 1);
        }
        check.due("the most keys that 511 calls make", most.count(), 256);
    }

    private static void dueCall(String what, int kind, HashTree x, Model model) {
        switch (kind) {
            case 0 -> {
                x.key(3, 3, 3, 3);
                model.key(3, 3, 3, 3);
            }
            case 1 -> check.due(what + ", set", x.set(4, 4, 4, 4), model.set(4, 4, 4, 4));
            case 2 -> check.due(what + ", remove", x.remove(), model.remove());
            case 3 -> check.due(what + ", has", x.has(), model.has());
            case 4 -> check.due(what + ", value", x.value(3), model.value(3));
            case 5 -> check.due(what + ", count", x.count(), model.count());
            case 6 -> check.due(what + ", root", x.root(3), model.root(3));
            case 7 -> check.due(what + ", prove", x.prove(), model.prove());
            case 8 -> check.due(what + ", sibling", x.sibling(0, 3), model.sibling(0, 3));
            case 9 -> check.due(what + ", ending", x.ending(), model.ending());
            case 10 -> check.due(what + ", endNumber", x.endNumber(1, 3), model.endNumber(1, 3));
            default -> check.due(what + ", digest", x.digest(-1, 8, 500, 3), Model.digest(-1, 8, 500)[3]);
        }
    }

    private static void bitsFromTheHighestOne() {
        check.sentence("BITS of a key or digest are numbered from 0, the highest one, to 255");
        for (int bit = 0; bit < 256; bit++) {
            HashTree x = new HashTree();
            Rows.set(x, SOME, VALUE);
            Rows.set(x, Rows.flipped(SOME, bit), VALUE);
            check.due("siblings of keys that part at bit " + bit, x.prove(), bit + 1);
            check.due("the other half of bit " + bit, Rows.sibling(x, bit), leaf(SOME, VALUE));
            Rows.set(x, Rows.flipped(SOME, 255 - bit), VALUE);
            check.due("siblings of a key that parts at bit " + (255 - bit), x.prove(), 256 - bit);
            Rows.key(x, SOME);
            check.due("siblings of the key from which both part", x.prove(), Math.max(bit, 255 - bit) + 1);
            check.due("it is still there", x.has(), true);
        }
    }

    private static void fourNumbersTheFirstOneBits0To63() {
        check.sentence("they are told in four numbers of 64 bits, the first one bits 0 .. 63");
        int[] bits = {0, 1, 62, 63, 64, 65, 126, 127, 128, 129, 190, 191, 192, 193, 254, 255};
        for (int bit : bits) {
            long number = 1L << 63 - bit % 64;
            int at = bit / 64;
            HashTree x = new HashTree();
            x.set(1, 2, 3, 4);
            x.key(at == 0 ? number : 0, at == 1 ? number : 0, at == 2 ? number : 0, at == 3 ? number : 0);
            x.set(5, 6, 7, 8);
            check.due("siblings, bit " + bit, x.prove(), bit + 1);
            check.due("the end's key, bit " + bit, x.endNumber(0, at), number);
        }
        HashTree x = new HashTree();
        check.due("the first number of a digest", x.digest(0, 0, 0, 0), 0xe3b0c44298fc1c14L);
        check.due("the last number of a digest", x.digest(0, 0, 0, 3), 0xa495991b7852b855L);
    }

    private static void bytesFromTheHighestBitsOn() {
        check.sentence("BYTES are told from the highest bits on.");
        byte[] bytes = new byte[65];
        long[] key = new long[4];
        long[] value = new long[4];
        for (int at = 0; at < 32; at++) {
            bytes[1 + at] = (byte) (at + 1);
            bytes[33 + at] = (byte) (255 - at);
            key[at / 8] |= (at + 1L) << 56 - at % 8 * 8;
            value[at / 8] |= (255L - at) << 56 - at % 8 * 8;
        }
        HashTree x = new HashTree();
        Rows.set(x, key, value);
        check.due("the root of key 01 02 .. and value ff fe ..", Rows.root(x), Model.sha256(bytes));
        check.due("the digest of bytes 01 .. 08", x.digest(0x0102030405060708L, 8, 1, 0),
            Model.sha256(new byte[] {1, 2, 3, 4, 5, 6, 7, 8})[0]);
    }

    private static void atMost512KeysEachWithAValue() {
        check.sentence("THE TREE holds at most 512 keys, each with a value.");
        HashTree x = Rows.treeOf(510);
        Model model = new Model();
        for (int n = 0; n < 512; n++) {
            Rows.set(model, Rows.spread(n), n, 0, 0, 0);
        }
        check.due("key 511", Rows.set(x, Rows.spread(510), 510, 0, 0, 0), 1);
        check.due("key 512", Rows.set(x, Rows.spread(511), 511, 0, 0, 0), 1);
        check.due("key 513", Rows.set(x, Rows.spread(512), 512, 0, 0, 0), HashTree.FULL);
        check.due("count()", x.count(), 512);
        check.due("has() of key 513", x.has(), false);
        check.due("the root of 512 keys", Rows.root(x), Rows.root(model));
        for (int n = 0; n < 512; n++) {
            Rows.key(x, Rows.spread(n));
            check.due("value of key " + n, Rows.value(x), Rows.row(n, 0, 0, 0));
        }
    }

    private static void withoutKeys32Bytes0() {
        check.sentence("without keys 32 bytes 0");
        HashTree x = new HashTree();
        check.due("at level 0", Rows.root(x), Rows.EMPTY);
        Rows.set(x, Rows.bit(255), VALUE);
        check.due("one key is not without keys", Rows.root(x), leaf(Rows.bit(255), VALUE));
        Rows.set(x, Rows.EMPTY, VALUE);
        check.due("siblings", x.prove(), 256);
        for (int k = 0; k < 255; k++) {
            check.due("the half without keys at level " + (k + 1), Rows.sibling(x, k), Rows.EMPTY);
        }
        check.due("the half with a key", Rows.sibling(x, 255), leaf(Rows.bit(255), VALUE));
        x.remove();
        Rows.key(x, Rows.bit(255));
        x.remove();
        check.due("when all went", Rows.root(x), Rows.EMPTY);
    }

    private static void withOneTheDigestOfAByte0() {
        check.sentence("with one the DIGEST of a byte 0, the key and its value (65 bytes)");
        long[][] keys = {Rows.EMPTY, Rows.bit(0), Rows.bit(255), SOME, {-1, -1, -1, -1}};
        long[][] values = {Rows.EMPTY, VALUE, {-1, -1, -1, -1}};
        for (long[] key : keys) {
            for (long[] value : values) {
                HashTree x = new HashTree();
                Rows.set(x, key, value);
                check.due("at level 0", Rows.root(x), leaf(key, value));
                for (int level : new int[] {1, 2, 64, 65, 255, 256}) {
                    Rows.set(x, Rows.flipped(key, level - 1), 9, 9, 9, 9);
                    x.prove();
                    check.due("at level " + level, Rows.sibling(x, level - 1), leaf(key, value));
                    x.remove();
                }
            }
        }
    }

    private static void withMoreTheDigestOfAByte1() {
        check.sentence("with more the digest of a byte 1, the hash at level d + 1 of those whose bit d is 0, "
            + "and of those whose bit d is 1 (65 bytes)");
        for (int level = 0; level < 256; level++) {
            long[] other = Rows.flipped(SOME, level);
            HashTree x = new HashTree();
            Rows.set(x, SOME, VALUE);
            x.root(0);
            Rows.set(x, other, 4, 5, 6, 7);
            long[] ofSome = leaf(SOME, VALUE);
            long[] ofOther = leaf(other, Rows.row(4, 5, 6, 7));
            boolean someIsOne = Model.bit(SOME, level);
            long[] want = Model.join(1, someIsOne ? ofOther : ofSome, someIsOne ? ofSome : ofOther);
            for (int above = level - 1; above >= 0; above--) {
                boolean one = Model.bit(SOME, above);
                want = Model.join(1, one ? Rows.EMPTY : want, one ? want : Rows.EMPTY);
            }
            check.due("two keys that part at level " + level, Rows.root(x), want);
        }
        HashTree x = new HashTree();
        Rows.set(x, Rows.EMPTY, VALUE);
        Rows.set(x, Rows.bit(1), VALUE);
        Rows.set(x, Rows.bit(0), VALUE);
        long[] zero = Model.join(1, leaf(Rows.EMPTY, VALUE), leaf(Rows.bit(1), VALUE));
        check.due("three keys", Rows.root(x), Model.join(1, zero, leaf(Rows.bit(0), VALUE)));
        longestWay();
    }

    /** Keys that part from 0 0 0 0 at each of the levels make the longest way there is. */
    private static void longestWay() {
        HashTree x = new HashTree();
        Model model = new Model();
        Rows.set(x, Rows.EMPTY, VALUE);
        Rows.set(model, Rows.EMPTY, VALUE);
        for (int bit = 0; bit < 256; bit++) {
            Rows.set(x, Rows.bit(bit), bit, 0, 0, 0);
            Rows.set(model, Rows.bit(bit), bit, 0, 0, 0);
        }
        check.due("keys that part at every level", Rows.root(x), Rows.root(model));
        Rows.key(x, Rows.EMPTY);
        check.due("their siblings", x.prove(), 256);
    }

    private static void theRootIsTheHashAtLevel0() {
        check.sentence("THE ROOT is the hash of all keys at level 0.");
        HashTree x = new HashTree();
        Model model = new Model();
        for (int n = 0; n < 40; n++) {
            Rows.set(x, Rows.spread(n), n, 0, 0, 0);
            Rows.set(model, Rows.spread(n), n, 0, 0, 0);
            check.due("of " + (n + 1) + " keys", Rows.root(x), Rows.root(model));
        }
        Rows.key(x, Rows.bit(9));
        check.due("whatever THE KEY is", Rows.root(x), Rows.root(model));
        for (int n = 0; n < 40; n++) {
            Rows.key(x, Rows.spread(n * 7 % 40));
            Rows.key(model, Rows.spread(n * 7 % 40));
            check.due("remove()", x.remove(), model.remove());
            check.due("when " + (n + 1) + " went", Rows.root(x), Rows.root(model));
        }
        // The keys left part behind level 0, and part first at another level each time.
        for (int bit = 255; bit >= 0; bit -= 17) {
            Rows.set(x, Rows.flipped(SOME, bit), VALUE);
            Rows.set(model, Rows.flipped(SOME, bit), VALUE);
            check.due("of keys that agree before bit " + bit, Rows.root(x), Rows.root(model));
        }
        for (int bit = 0; bit < 256; bit += 17) {
            Rows.key(x, Rows.flipped(SOME, bit));
            Rows.key(model, Rows.flipped(SOME, bit));
            check.due("remove()", x.remove(), model.remove());
            check.due("when the one beside by bit " + bit + " went", Rows.root(x), Rows.root(model));
        }
    }

    private static void asLongAsTheSetHasMoreThanOneKey() {
        check.sentence("as long as the set at hand .. has more than one key");
        HashTree x = new HashTree();
        check.due("no keys", x.prove(), 0);
        Rows.set(x, SOME, VALUE);
        check.due("one key, itself", x.prove(), 0);
        Rows.key(x, Rows.flipped(SOME, 255));
        check.due("one key, another", x.prove(), 0);
        Rows.set(x, Rows.flipped(SOME, 100), VALUE);
        check.due("two keys, one of them", x.prove(), 101);
        check.due("the set at level 101 has one key", x.ending(), 1);
        Rows.key(x, Rows.flipped(SOME, 101));
        check.due("two keys, behind where they part", x.prove(), 101);
        check.due("the set at level 101 has one other key", x.ending(), 2);
        for (int bit = 0; bit < 100; bit++) {
            Rows.key(x, Rows.flipped(SOME, bit));
            check.due("two keys, left at bit " + bit, x.prove(), bit + 1);
            check.due("the set behind bit " + bit + " has none", x.ending(), 0);
        }
        Rows.set(x, Rows.flipped(SOME, 101), VALUE);
        check.due("three keys, one of the two that part last", x.prove(), 102);
        Rows.key(x, Rows.flipped(SOME, 100));
        check.due("three keys, the one that parts first", x.prove(), 101);
    }

    private static void theHashOfTheOtherHalf() {
        check.sentence("the hash of the other half (those that differ from the key in the level's bit, "
            + "at the next level) is one of its SIBLINGS");
        HashTree x = new HashTree();
        Rows.set(x, Rows.EMPTY, VALUE);
        Rows.set(x, Rows.bit(200), VALUE);
        long[] both = Model.join(1, leaf(Rows.EMPTY, VALUE), leaf(Rows.bit(200), VALUE));
        for (int bit = 199; bit >= 0; bit--) {
            Rows.key(x, Rows.bit(bit));
            check.due("siblings when left at " + bit, x.prove(), bit + 1);
            check.due("both keys at level " + (bit + 1), Rows.sibling(x, bit), both);
            check.due("no key before", Rows.sibling(x, bit - 1), Rows.EMPTY);
            both = Model.join(1, both, Rows.EMPTY);
        }
        Rows.key(x, Rows.bit(200));
        x.prove();
        check.due("half 0 for half 1", Rows.sibling(x, 200), leaf(Rows.EMPTY, VALUE));
        Rows.key(x, Rows.EMPTY);
        x.prove();
        check.due("half 1 for half 0", Rows.sibling(x, 200), leaf(Rows.bit(200), VALUE));
    }

    private static void itsEnd() {
        check.sentence("Its END is that there is none (0), the key itself (1), or one other key (2), with its value.");
        HashTree x = new HashTree();
        dueEnd(x, "no keys", 0, Rows.EMPTY, Rows.EMPTY);
        Rows.set(x, SOME, VALUE);
        dueEnd(x, "the only key", 1, SOME, VALUE);
        for (int bit = 0; bit < 256; bit += 15) {
            Rows.key(x, Rows.flipped(SOME, bit));
            dueEnd(x, "beside the only key by bit " + bit, 2, SOME, VALUE);
        }
        Rows.set(x, Rows.flipped(SOME, 128), 4, 5, 6, 7);
        dueEnd(x, "one of two", 1, Rows.flipped(SOME, 128), Rows.row(4, 5, 6, 7));
        Rows.key(x, Rows.flipped(SOME, 127));
        dueEnd(x, "left before they part", 0, Rows.EMPTY, Rows.EMPTY);
        Rows.key(x, Rows.flipped(SOME, 129));
        dueEnd(x, "left behind where they part", 2, SOME, VALUE);
        Rows.key(x, Rows.flipped(Rows.flipped(SOME, 128), 129));
        dueEnd(x, "left in the other half", 2, Rows.flipped(SOME, 128), Rows.row(4, 5, 6, 7));
    }

    private static void dueEnd(HashTree x, String what, int ending, long[] key, long[] value) {
        x.prove();
        check.due(what + ": ending()", x.ending(), ending);
        check.due(what + ": its key", Rows.end(x, 0), key);
        check.due(what + ": its value", Rows.end(x, 1), value);
    }
}
