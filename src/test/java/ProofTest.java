/** Promises 8 to 12: root, prove, sibling, ending, endNumber; a method for each sentence of them. */
public final class ProofTest {
    private static final Check check = new Check();
    private static final long[] ONES = {-1, -1, -1, -1};

    public static void main(String[] args) {
        numberOfTheRoot();
        noSuchNumberOfTheRoot();
        asTheTreeIsNow();
        howManySiblingsItHas();
        staysTillTheNextProve();
        siblingAtLevelK();
        noSuchSibling();
        theProofsEnd();
        badWhenThereWasNoProveYet();
        numberOfTheKeyOrValueOfItsEnd();
        noSuchNumberOfItsEnd();
        check.end();
    }

    private static void numberOfTheRoot() {
        check.sentence("8: Number i of THE ROOT");
        HashTree x = new HashTree();
        check.due("no keys", Rows.root(x), Rows.EMPTY);
        Rows.set(x, ONES, 5, 6, 7, 8);
        long[] want = Model.join(0, ONES, Rows.row(5, 6, 7, 8));
        check.due("root(0)", x.root(0), want[0]);
        check.due("root(1)", x.root(1), want[1]);
        check.due("root(2)", x.root(2), want[2]);
        check.due("root(3)", x.root(3), want[3]);
        x.set(5, 6, 7, 9);
        check.due("root(3) of a new value", x.root(3), Model.join(0, ONES, Rows.row(5, 6, 7, 9))[3]);
        x.remove();
        check.due("no keys again", Rows.root(x), Rows.EMPTY);
    }

    private static void noSuchNumberOfTheRoot() {
        check.sentence("8: 0 when there is no such number.");
        HashTree x = new HashTree();
        for (int keys = 0; keys <= 2; keys++) {
            for (int i : Rows.NO_NUMBERS) {
                check.due("root(" + i + ") of " + keys + " keys", x.root(i), 0);
            }
            check.due("root(0) is a number", x.root(0) != 0, keys > 0);
            check.due("root(3) is a number", x.root(3) != 0, keys > 0);
            Rows.set(x, Rows.bit(keys), 1, 1, 1, 1);
        }
    }

    private static void asTheTreeIsNow() {
        check.sentence("9: THE PROOF is that for THE KEY, as the tree is now");
        HashTree x = new HashTree();
        Model model = new Model();
        for (int n = 0; n < 60; n++) {
            Rows.set(x, Rows.spread(n), n, 0, 0, 0);
            Rows.set(model, Rows.spread(n), n, 0, 0, 0);
            if (n % 4 == 3) {
                check.due("remove()", x.remove(), model.remove());
            }
            dueProof(x, model, Rows.spread(n));
            dueProof(x, model, Rows.spread(n / 2));
            dueProof(x, model, Rows.spread(n + 1));
        }
    }

    private static void dueProof(HashTree x, Model model, long[] key) {
        Rows.key(x, key);
        Rows.key(model, key);
        check.due("prove()", x.prove(), model.prove());
        check.due("ending()", x.ending(), model.ending());
        for (int i = 0; i < 4; i++) {
            check.due("endNumber(0, " + i + ")", x.endNumber(0, i), model.endNumber(0, i));
            check.due("endNumber(1, " + i + ")", x.endNumber(1, i), model.endNumber(1, i));
            for (int k = 0; k < 256; k++) {
                check.due("sibling(" + k + ", " + i + ")", x.sibling(k, i), model.sibling(k, i));
            }
        }
    }

    private static void howManySiblingsItHas() {
        check.sentence("9: how many siblings it has.");
        HashTree x = new HashTree();
        check.due("no keys", x.prove(), 0);
        Rows.set(x, Rows.EMPTY, 1, 1, 1, 1);
        check.due("one key", x.prove(), 0);
        for (int bit = 255; bit >= 0; bit--) {
            Rows.key(x, Rows.bit(bit));
            check.due("before the key that parts at " + bit, x.prove(), bit == 255 ? 0 : bit + 1);
            x.set(1, 1, 1, 1);
            check.due("of the key that parts at " + bit, x.prove(), bit + 1);
            Rows.key(x, Rows.EMPTY);
            check.due("of 0 0 0 0", x.prove(), 256);
            check.due("again", x.prove(), 256);
        }
        for (int bit = 255; bit >= 0; bit--) {
            Rows.key(x, Rows.bit(bit));
            x.remove();
            Rows.key(x, Rows.EMPTY);
            check.due("when the one that parts at " + bit + " went", x.prove(), bit);
        }
    }

    private static void staysTillTheNextProve() {
        check.sentence("9: It stays as it is till the next prove().");
        HashTree x = new HashTree();
        x.prove();
        long[] none = Rows.proof(x);
        x.set(1, 2, 3, 4);
        check.due("a proof of no keys, when one came", Rows.proof(x), none);
        Rows.set(x, Rows.bit(255), 5, 6, 7, 8);
        check.due("prove()", x.prove(), 256);
        long[] before = Rows.proof(x);
        x.set(9, 9, 9, 9);
        check.due("after a new value of its end", Rows.proof(x), before);
        Rows.set(x, Rows.EMPTY, 9, 9, 9, 9);
        check.due("after a new value of its sibling", Rows.proof(x), before);
        x.set(9, 9, 9, 9);
        x.root(0);
        check.due("after root()", Rows.proof(x), before);
        Rows.set(x, Rows.bit(254), 7, 7, 7, 7);
        x.root(3);
        check.due("after a new key on its way", Rows.proof(x), before);
        x.digest(-1, 8, 500, 0);
        check.due("after digest()", Rows.proof(x), before);
        for (int bit = 253; bit <= 255; bit++) {
            Rows.key(x, Rows.bit(bit));
            check.due("remove()", x.remove(), bit == 253 ? HashTree.NO : 1);
            x.root(1);
            check.due("after remove() of bit " + bit, Rows.proof(x), before);
        }
        Rows.key(x, Rows.EMPTY);
        x.remove();
        check.due("after the last key went", Rows.proof(x), before);
        check.due("the next prove()", x.prove(), 0);
        check.due("the next proof", Rows.proof(x), none);
    }

    private static void siblingAtLevelK() {
        check.sentence("10: Number i of sibling k (the one at level k) of THE PROOF");
        HashTree x = new HashTree();
        Rows.set(x, Rows.EMPTY, 1, 2, 3, 4);
        int[] bits = {0, 1, 63, 64, 191, 254, 255};
        for (int bit : bits) {
            Rows.set(x, Rows.bit(bit), bit, 0, 0, 1);
        }
        Rows.key(x, Rows.EMPTY);
        check.due("prove()", x.prove(), 256);
        for (int bit : bits) {
            long[] want = Model.join(0, Rows.bit(bit), Rows.row(bit, 0, 0, 1));
            for (int i = 0; i < 4; i++) {
                check.due("sibling(" + bit + ", " + i + ")", x.sibling(bit, i), want[i]);
            }
        }
        for (int k : new int[] {2, 62, 65, 190, 192, 253}) {
            check.due("sibling " + k + ", a half without keys", Rows.sibling(x, k), Rows.EMPTY);
        }
    }

    private static void noSuchSibling() {
        check.sentence("10: 0 when there is none such.");
        HashTree x = new HashTree();
        Rows.set(x, Rows.EMPTY, 1, 2, 3, 4);
        for (int bit = 253; bit <= 255; bit++) {
            Rows.set(x, Rows.bit(bit), 5, 6, 7, 8);
        }
        dueNoSiblings(x, "before prove()", 0);
        Rows.key(x, Rows.EMPTY);
        check.due("prove()", x.prove(), 256);
        for (int k = 253; k <= 255; k++) {
            long[] there = Model.join(0, Rows.bit(k), Rows.row(5, 6, 7, 8));
            check.due("sibling " + k + " is there", Rows.sibling(x, k), there);
        }
        dueNoSiblings(x, "behind the last level", 256);
        for (int i : Rows.NO_NUMBERS) {
            check.due("sibling(253, " + i + ")", x.sibling(253, i), 0);
            check.due("sibling(254, " + i + ")", x.sibling(254, i), 0);
            check.due("sibling(255, " + i + ")", x.sibling(255, i), 0);
            check.due("sibling(256, " + i + ")", x.sibling(256, i), 0);
        }
        Rows.set(x, Rows.bit(63), 9, 9, 9, 9);
        check.due("a shorter proof", x.prove(), 64);
        check.due("sibling(63, 0) is there", x.sibling(63, 0) != 0, true);
        dueNoSiblings(x, "behind a shorter proof", 64);
        Rows.key(x, Rows.bit(0));
        check.due("the shortest proof", x.prove(), 1);
        check.due("sibling(0, 0) is there", x.sibling(0, 0) != 0, true);
        dueNoSiblings(x, "behind the shortest proof", 1);
        HashTree one = new HashTree();
        one.set(1, 2, 3, 4);
        one.prove();
        dueNoSiblings(one, "a proof without siblings", 0);
    }

    /** There is none at a level from this one on, none before level 0, and none where k times 4 wraps around. */
    private static void dueNoSiblings(HashTree x, String what, int from) {
        for (int k = from; k <= 300; k++) {
            check.due(what + ": sibling " + k, Rows.sibling(x, k), Rows.EMPTY);
        }
        int[] none = {
            -1, -2, -255, -256, Integer.MIN_VALUE, Integer.MIN_VALUE + 255, Integer.MAX_VALUE,
            (1 << 30) - 1, 1 << 30, (1 << 30) + 255, -(1 << 30), -(1 << 30) + 255
        };
        for (int k : none) {
            check.due(what + ": sibling " + k, Rows.sibling(x, k), Rows.EMPTY);
        }
    }

    private static void theProofsEnd() {
        check.sentence("11: THE PROOF's END: 0, 1, 2");
        HashTree x = new HashTree();
        x.prove();
        check.due("no keys", x.ending(), 0);
        Rows.set(x, Rows.EMPTY, 1, 2, 3, 4);
        check.due("before the next prove()", x.ending(), 0);
        x.prove();
        check.due("itself", x.ending(), 1);
        Rows.key(x, Rows.bit(255));
        check.due("before the next prove()", x.ending(), 1);
        x.prove();
        check.due("one other", x.ending(), 2);
        x.set(5, 6, 7, 8);
        check.due("before the next prove()", x.ending(), 2);
        x.prove();
        check.due("itself beside the other", x.ending(), 1);
        Rows.key(x, Rows.bit(254));
        x.prove();
        check.due("none, where both are in the other half", x.ending(), 0);
        Rows.key(x, Rows.bit(255));
        x.remove();
        x.prove();
        check.due("one other, when itself went", x.ending(), 2);
    }

    private static void badWhenThereWasNoProveYet() {
        check.sentence("11: BAD when there was no prove() yet.");
        HashTree x = new HashTree();
        check.due("a new object", x.ending(), HashTree.BAD);
        x.key(1, 2, 3, 4);
        check.due("after key()", x.ending(), HashTree.BAD);
        x.set(1, 2, 3, 4);
        check.due("after set()", x.ending(), HashTree.BAD);
        x.has();
        x.value(0);
        x.count();
        x.root(0);
        x.digest(1, 1, 1, 1);
        x.sibling(0, 0);
        x.endNumber(0, 0);
        check.due("after all that ask", x.ending(), HashTree.BAD);
        x.remove();
        x.remove();
        check.due("after remove()", x.ending(), HashTree.BAD);
        check.due("again", x.ending(), HashTree.BAD);
        new HashTree().prove();
        check.due("after prove() of another object", x.ending(), HashTree.BAD);
        x.prove();
        check.due("after prove() of no keys", x.ending(), 0);
    }

    private static void numberOfTheKeyOrValueOfItsEnd() {
        check.sentence("12: Number i of the key (what = 0) or value (1) of its END");
        HashTree x = new HashTree();
        x.key(1, -2, Long.MIN_VALUE, Long.MAX_VALUE);
        x.set(-5, 6, -7, 8);
        x.prove();
        dueEnd(x, "itself");
        x.key(1, -2, Long.MIN_VALUE, 0);
        dueEnd(x, "after key()");
        x.prove();
        dueEnd(x, "one other");
        Rows.set(x, Rows.bit(0), 1, 1, 1, 1);
        x.key(1, -2, Long.MIN_VALUE, Long.MAX_VALUE);
        x.prove();
        dueEnd(x, "itself of two");
    }

    private static void dueEnd(HashTree x, String what) {
        check.due(what + ": endNumber(0, 0)", x.endNumber(0, 0), 1);
        check.due(what + ": endNumber(0, 1)", x.endNumber(0, 1), -2);
        check.due(what + ": endNumber(0, 2)", x.endNumber(0, 2), Long.MIN_VALUE);
        check.due(what + ": endNumber(0, 3)", x.endNumber(0, 3), Long.MAX_VALUE);
        check.due(what + ": endNumber(1, 0)", x.endNumber(1, 0), -5);
        check.due(what + ": endNumber(1, 1)", x.endNumber(1, 1), 6);
        check.due(what + ": endNumber(1, 2)", x.endNumber(1, 2), -7);
        check.due(what + ": endNumber(1, 3)", x.endNumber(1, 3), 8);
    }

    private static void noSuchNumberOfItsEnd() {
        check.sentence("12: 0 when there is none such.");
        HashTree x = new HashTree();
        Rows.set(x, ONES, -1, -1, -1, -1);
        dueNoEnd(x, "before prove()");
        x.prove();
        int[] noParts = {
            -1, 2, -2, 3, Integer.MIN_VALUE, Integer.MIN_VALUE + 1, Integer.MAX_VALUE,
            1 << 30, (1 << 30) + 1, -(1 << 30)
        };
        for (int what : noParts) {
            check.due("end " + what, Rows.end(x, what), Rows.EMPTY);
            check.due("endNumber(" + what + ", -4)", x.endNumber(what, -4), 0);
            check.due("endNumber(" + what + ", 4)", x.endNumber(what, 4), 0);
        }
        for (int i : Rows.NO_NUMBERS) {
            check.due("endNumber(0, " + i + ")", x.endNumber(0, i), 0);
            check.due("endNumber(1, " + i + ")", x.endNumber(1, i), 0);
        }
        check.due("the key beside", Rows.end(x, 0), ONES);
        check.due("the value beside", Rows.end(x, 1), ONES);
        Rows.set(x, Rows.flipped(ONES, 255), 1, 1, 1, 1);
        Rows.key(x, Rows.EMPTY);
        x.prove();
        check.due("an END without a key", x.ending(), 0);
        dueNoEnd(x, "an END without a key");
    }

    private static void dueNoEnd(HashTree x, String what) {
        check.due(what + ": its key", Rows.end(x, 0), Rows.EMPTY);
        check.due(what + ": its value", Rows.end(x, 1), Rows.EMPTY);
    }
}
