/** Promises 9 to 12: prove, sibling, ending, endNumber. */
public final class ProofTest {
    private static final Check check = new Check();
    private static final long[] EMPTY = new long[4];

    public static void main(String[] args) {
        beforeTheFirst();
        noKey();
        oneKey();
        partingOnTheWay();
        staysTillTheNext();
        clearedByTheNext();
        wrongNumbers();
        provesTheRoot();
        check.end();
    }

    private static void beforeTheFirst() {
        HashTree x = new HashTree();
        x.set(1, 2, 3, 4);
        x.key(-1, 0, 0, 0);
        x.set(1, 2, 3, 4);
        x.root(0);
        dueNoSibling(x, "before prove", 0);
        dueEnd(x, "before prove", HashTree.BAD, EMPTY, EMPTY);
    }

    private static void noKey() {
        HashTree x = new HashTree();
        check.due("no key: prove()", x.prove(), 0);
        dueNoSibling(x, "no key", 0);
        dueEnd(x, "no key", 0, EMPTY, EMPTY);
    }

    private static void oneKey() {
        HashTree x = new HashTree();
        x.key(1, 2, 3, 4);
        x.set(5, 6, 7, 8);
        check.due("itself: prove()", x.prove(), 0);
        dueEnd(x, "itself", 1, new long[] {1, 2, 3, 4}, new long[] {5, 6, 7, 8});
        x.key(1, 2, 3, 5);
        check.due("one other: prove()", x.prove(), 0);
        dueNoSibling(x, "one other", 0);
        dueEnd(x, "one other", 2, new long[] {1, 2, 3, 4}, new long[] {5, 6, 7, 8});
    }

    /** Two keys part at level 200; a key that leaves them at level 100 has both in its last sibling. */
    private static void partingOnTheWay() {
        HashTree x = new HashTree();
        long at100 = Long.MIN_VALUE >>> 36;
        long at200 = Long.MIN_VALUE >>> 8;
        x.key(-1, 0, 0, 0);
        x.set(1, 0, 0, 0);
        x.key(-1, 0, 0, at200);
        x.set(2, 0, 0, 0);
        long[] zero = Model.join(0, new long[] {-1, 0, 0, 0}, new long[] {1, 0, 0, 0});
        long[] one = Model.join(0, new long[] {-1, 0, 0, at200}, new long[] {2, 0, 0, 0});
        long[] both = Model.join(1, zero, one);
        for (int level = 199; level > 100; level--) {
            both = Model.join(1, both, EMPTY);
        }
        x.key(-1, at100, 0, 0);
        check.due("leaves at 100: prove()", x.prove(), 101);
        dueSibling(x, "leaves at 100", 0, EMPTY);
        dueSibling(x, "leaves at 100", 99, EMPTY);
        dueSibling(x, "leaves at 100", 100, both);
        dueNoSibling(x, "leaves at 100", 101);
        dueEnd(x, "leaves at 100", 0, EMPTY, EMPTY);
        x.key(-1, 0, 0, at200 | 1);
        check.due("leaves behind 200: prove()", x.prove(), 201);
        dueSibling(x, "leaves behind 200", 199, EMPTY);
        dueSibling(x, "leaves behind 200", 200, zero);
        dueNoSibling(x, "leaves behind 200", 201);
        dueEnd(x, "leaves behind 200", 2, new long[] {-1, 0, 0, at200}, new long[] {2, 0, 0, 0});
        x.key(0, 0, 0, 0);
        check.due("leaves at 0: prove()", x.prove(), 1);
        dueEnd(x, "leaves at 0", 0, EMPTY, EMPTY);
    }

    private static void staysTillTheNext() {
        HashTree x = new HashTree();
        x.set(1, 2, 3, 4);
        x.key(-1, -1, -1, -1);
        x.set(5, 6, 7, 8);
        check.due("stays: prove()", x.prove(), 1);
        long[] sibling = Model.join(0, EMPTY, new long[] {1, 2, 3, 4});
        x.set(9, 9, 9, 9);
        x.key(0, 0, 0, 0);
        x.set(9, 9, 9, 9);
        x.root(0);
        x.digest(1, 1, 1, 1);
        x.remove();
        x.key(-1, -1, -1, -1);
        x.remove();
        x.root(0);
        dueSibling(x, "stays", 0, sibling);
        dueEnd(x, "stays", 1, new long[] {-1, -1, -1, -1}, new long[] {5, 6, 7, 8});
        check.due("stays: the next prove()", x.prove(), 0);
        dueNoSibling(x, "stays: the next", 0);
        dueEnd(x, "stays: the next", 0, EMPTY, EMPTY);
    }

    private static void clearedByTheNext() {
        HashTree x = new HashTree();
        x.set(1, 2, 3, 4);
        x.key(0, 0, 0, 1);
        x.set(5, 6, 7, 8);
        check.due("cleared: prove()", x.prove(), 256);
        x.key(1, 0, 0, 0);
        x.set(9, 9, 9, 9);
        check.due("cleared: shorter prove()", x.prove(), 64);
        dueNoSibling(x, "cleared", 64);
    }

    private static void wrongNumbers() {
        HashTree x = new HashTree();
        x.set(1, 2, 3, 4);
        x.key(0, 0, 0, 1);
        x.set(5, 6, 7, 8);
        x.prove();
        check.due("sibling(255, 0) is there", x.sibling(255, 0) != 0, true);
        check.due("endNumber(1, 0) is there", x.endNumber(1, 0), 5);
        int[] wrong = {-1, Integer.MIN_VALUE, Integer.MAX_VALUE, 1 << 30, 256, 257, -256};
        for (int bad : wrong) {
            check.due("sibling(" + bad + ", 0)", x.sibling(bad, 0), 0);
            check.due("sibling(255, " + bad + ")", x.sibling(255, bad), 0);
            check.due("endNumber(" + bad + ", 0)", x.endNumber(bad, 0), 0);
            check.due("endNumber(1, " + bad + ")", x.endNumber(1, bad), 0);
        }
        check.due("sibling(254, 4)", x.sibling(254, 4), 0);
        check.due("sibling(255, 4)", x.sibling(255, 4), 0);
        check.due("sibling(255, -1)", x.sibling(255, -1), 0);
        check.due("endNumber(0, 4)", x.endNumber(0, 4), 0);
        check.due("endNumber(1, -1)", x.endNumber(1, -1), 0);
        check.due("endNumber(2, 0)", x.endNumber(2, 0), 0);
        check.due("endNumber(2, -4)", x.endNumber(2, -4), 0);
    }

    /** Whoever knows the root makes it again from the end and the siblings. */
    private static void provesTheRoot() {
        HashTree x = new HashTree();
        for (int n = 0; n < 60; n++) {
            x.key(n % 4 == 0 ? 0 : n * 0x9e3779b97f4a7c15L, n % 3, 0, n);
            x.set(n, n, n, n);
        }
        for (int n = 0; n < 120; n++) {
            long[] key = {n % 4 == 0 ? 0 : n * 0x9e3779b97f4a7c15L, n % 3, 0, n};
            x.key(key[0], key[1], key[2], key[3]);
            int siblings = x.prove();
            check.due("proves: is itself " + n, x.ending() == 1, n < 60);
            long[] hash = x.ending() == 0 ? EMPTY : Model.join(0, end(x, 0), end(x, 1));
            for (int level = siblings - 1; level >= 0; level--) {
                long[] sibling = sibling(x, level);
                hash = Model.bit(key, level) ? Model.join(1, sibling, hash) : Model.join(1, hash, sibling);
            }
            for (int i = 0; i < 4; i++) {
                check.due("proves: root(" + i + ") by " + n, x.root(i), hash[i]);
            }
        }
    }

    private static long[] end(HashTree x, int what) {
        return new long[] {x.endNumber(what, 0), x.endNumber(what, 1), x.endNumber(what, 2), x.endNumber(what, 3)};
    }

    private static long[] sibling(HashTree x, int k) {
        return new long[] {x.sibling(k, 0), x.sibling(k, 1), x.sibling(k, 2), x.sibling(k, 3)};
    }

    private static void dueSibling(HashTree x, String what, int k, long[] want) {
        for (int i = 0; i < 4; i++) {
            check.due(what + ": sibling(" + k + ", " + i + ")", x.sibling(k, i), want[i]);
        }
    }

    private static void dueNoSibling(HashTree x, String what, int from) {
        for (int k = from; k <= 257; k++) {
            dueSibling(x, what, k, EMPTY);
        }
        dueSibling(x, what, -1, EMPTY);
    }

    private static void dueEnd(HashTree x, String what, int ending, long[] key, long[] value) {
        check.due(what + ": ending()", x.ending(), ending);
        for (int i = 0; i < 4; i++) {
            check.due(what + ": endNumber(0, " + i + ")", x.endNumber(0, i), key[i]);
            check.due(what + ": endNumber(1, " + i + ")", x.endNumber(1, i), value[i]);
        }
    }
}
