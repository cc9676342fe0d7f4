/** Promises 1 to 7: a new object, key, set, remove, has, value, count; a method for each sentence of them. */
public final class KeysTest {
    private static final Check check = new Check();
    private static final long[] SOME = {-1, Long.MIN_VALUE, 0, Long.MAX_VALUE};

    public static void main(String[] args) {
        noKeys();
        theKeyThatTheOtherCallsMean();
        zerosAtFirst();
        theKeyGetsAValue();
        oneWhenItWasNotThereElseZero();
        full();
        theKeyGoes();
        noWhenItIsNotThere();
        whetherTheKeyIsThere();
        numberOfTheKeysValue();
        zeroWhenItIsNotThere();
        zeroWhenThereIsNoSuchNumber();
        howManyKeysThereAre();
        check.end();
    }

    private static void noKeys() {
        check.sentence("1: No keys.");
        HashTree x = new HashTree();
        check.due("count()", x.count(), 0);
        check.due("root", Rows.root(x), Rows.EMPTY);
        long[][] keys = {Rows.EMPTY, Rows.bit(0), Rows.bit(255), SOME, {-1, -1, -1, -1}};
        for (long[] key : keys) {
            Rows.key(x, key);
            check.due("has()", x.has(), false);
            check.due("value", Rows.value(x), Rows.EMPTY);
            check.due("remove()", x.remove(), HashTree.NO);
        }
        check.due("the first set", x.set(1, 1, 1, 1), 1);
        check.due("count() beside it", x.count(), 1);
        HashTree other = new HashTree();
        check.due("another new object", Rows.tree(other), new long[10]);
        check.due("its prove()", other.prove(), 0);
        check.due("its ending()", other.ending(), 0);
        other.set(2, 2, 2, 2);
        check.due("count() of the first, when the other has a key too", x.count(), 1);
        check.due("value of the first", Rows.value(x), Rows.row(1, 1, 1, 1));
    }

    private static void theKeyThatTheOtherCallsMean() {
        check.sentence("2: THE KEY that the other calls mean");
        HashTree x = new HashTree();
        Rows.set(x, SOME, 1, 2, 3, 4);
        for (int bit = 0; bit < 256; bit++) {
            Rows.key(x, Rows.flipped(SOME, bit));
            check.due("has() with bit " + bit + " flipped", x.has(), false);
        }
        Rows.key(x, Rows.flipped(SOME, 255));
        check.due("remove() means it", x.remove(), HashTree.NO);
        check.due("set() means it", x.set(5, 6, 7, 8), 1);
        check.due("value() means it", Rows.value(x), Rows.row(5, 6, 7, 8));
        x.prove();
        check.due("prove() means it", Rows.end(x, 0), Rows.flipped(SOME, 255));
        Rows.key(x, SOME);
        check.due("the first key's value", Rows.value(x), Rows.row(1, 2, 3, 4));
        x.prove();
        check.due("prove() means the first", Rows.end(x, 0), SOME);
        Rows.key(x, Rows.EMPTY);
        Rows.key(x, SOME);
        check.due("the last key() counts", x.remove(), 1);
        check.due("key() makes none", x.count(), 1);
    }

    private static void zerosAtFirst() {
        check.sentence("2: 0 0 0 0 at first");
        HashTree x = new HashTree();
        check.due("set without key()", x.set(1, 2, 3, 4), 1);
        x.prove();
        check.due("the key that it set", Rows.end(x, 0), Rows.EMPTY);
        long[][] beside = {{0, 0, 0, 1}, {0, 0, 1, 0}, {0, 1, 0, 0}, {1, 0, 0, 0}, {-1, 0, 0, 0}, {0, 0, 0, -1}};
        for (long[] key : beside) {
            Rows.key(x, key);
            check.due("has() beside it", x.has(), false);
        }
        Rows.key(x, Rows.EMPTY);
        check.due("has() of 0 0 0 0", x.has(), true);
        HashTree y = new HashTree();
        check.due("another object's key at first", y.has(), false);
        y.set(1, 1, 1, 1);
        y.prove();
        check.due("another object's key", Rows.end(y, 0), Rows.EMPTY);
    }

    private static void theKeyGetsAValue() {
        check.sentence("3: THE KEY gets a value");
        HashTree x = new HashTree();
        long[][] values = {
            {10, 20, 30, 40}, {0, 0, 0, 0}, {-1, -1, -1, -1},
            {Long.MIN_VALUE, Long.MAX_VALUE, 0, 1}, {1, 0, Long.MAX_VALUE, Long.MIN_VALUE}
        };
        for (long[] value : values) {
            Rows.set(x, SOME, value);
            check.due("the value", Rows.value(x), value);
            check.due("the root", Rows.root(x), Model.join(0, SOME, value));
        }
        Rows.set(x, Rows.bit(3), 7, 7, 7, 7);
        Rows.key(x, SOME);
        check.due("the value when another key got one", Rows.value(x), values[4]);
    }

    private static void oneWhenItWasNotThereElseZero() {
        check.sentence("3: 1 when it was not there, else 0.");
        HashTree x = new HashTree();
        check.due("first set", Rows.set(x, SOME, 1, 2, 3, 4), 1);
        check.due("another value", x.set(1, 2, 3, 5), 0);
        check.due("the same value", x.set(1, 2, 3, 5), 0);
        check.due("a value of zeros", x.set(0, 0, 0, 0), 0);
        check.due("after a value of zeros", x.set(0, 0, 0, 0), 0);
        check.due("a key beside it", Rows.set(x, Rows.flipped(SOME, 255), 1, 2, 3, 4), 1);
        check.due("that key again", x.set(1, 2, 3, 4), 0);
        x.remove();
        check.due("after remove()", x.set(1, 2, 3, 4), 1);
        check.due("the first key still", Rows.set(x, SOME, 9, 9, 9, 9), 0);
    }

    /** More calls than an object is promised for, since fewer cannot make 512 keys. */
    private static void full() {
        check.sentence("3: FULL.");
        HashTree x = Rows.treeOf(511);
        check.due("the 512th key", Rows.set(x, Rows.spread(511), 511, 0, 0, 0), 1);
        Rows.key(x, Rows.spread(512));
        x.prove();
        long[] treeBefore = Rows.tree(x);
        long[] proofBefore = Rows.proof(x);
        check.due("the 513th key", x.set(1, 1, 1, 1), HashTree.FULL);
        check.due("the 513th key again", x.set(0, 0, 0, 0), HashTree.FULL);
        check.due("the refused set leaves the tree", Rows.tree(x), treeBefore);
        check.due("the refused set leaves THE PROOF", Rows.proof(x), proofBefore);
        check.due("a key that is there", Rows.set(x, Rows.spread(77), 7, 8, 9, 10), 0);
        check.due("its new value", Rows.value(x), Rows.row(7, 8, 9, 10));
        check.due("remove()", x.remove(), 1);
        check.due("a key in its place", Rows.set(x, Rows.spread(512), 1, 1, 1, 1), 1);
        check.due("the one that went is one too many", Rows.set(x, Rows.spread(77), 1, 1, 1, 1), HashTree.FULL);
    }

    private static void theKeyGoes() {
        check.sentence("4: THE KEY goes: 1");
        HashTree x = new HashTree();
        Rows.set(x, SOME, 1, 2, 3, 4);
        long[] alone = Rows.root(x);
        Rows.set(x, Rows.flipped(SOME, 255), 5, 6, 7, 8);
        Rows.set(x, Rows.flipped(SOME, 0), 5, 6, 7, 8);
        check.due("the third", x.remove(), 1);
        check.due("has() then", x.has(), false);
        Rows.key(x, Rows.flipped(SOME, 255));
        check.due("the second", x.remove(), 1);
        check.due("the root of the one that stays", Rows.root(x), alone);
        Rows.key(x, SOME);
        check.due("its value", Rows.value(x), Rows.row(1, 2, 3, 4));
        check.due("the last", x.remove(), 1);
        check.due("nothing is left", Rows.tree(x), new long[10]);
        check.due("set of one that went", x.set(5, 5, 5, 5), 1);
        check.due("its old value is gone", Rows.value(x), Rows.row(5, 5, 5, 5));
        Rows.set(x, SOME, 0, 0, 0, 0);
        check.due("one with a value of zeros", x.remove(), 1);
    }

    private static void noWhenItIsNotThere() {
        check.sentence("4: NO when it is not there.");
        HashTree x = new HashTree();
        check.due("no keys", x.remove(), HashTree.NO);
        check.due("nothing changed", Rows.tree(x), new long[10]);
        check.due("still no prove()", x.ending(), HashTree.BAD);
        Rows.set(x, SOME, 1, 2, 3, 4);
        Rows.set(x, Rows.flipped(SOME, 100), 1, 2, 3, 4);
        x.prove();
        long[] proofBefore = Rows.proof(x);
        for (int bit = 0; bit < 256; bit++) {
            if (bit != 100) {
                Rows.key(x, Rows.flipped(SOME, bit));
                long[] treeBefore = Rows.tree(x);
                check.due("beside it by bit " + bit, x.remove(), HashTree.NO);
                check.due("the tree, bit " + bit, Rows.tree(x), treeBefore);
            }
        }
        check.due("THE PROOF", Rows.proof(x), proofBefore);
        Rows.key(x, SOME);
        check.due("it is there", x.remove(), 1);
        check.due("it has gone", x.remove(), HashTree.NO);
        check.due("it has gone still", x.remove(), HashTree.NO);
        check.due("count()", x.count(), 1);
        Rows.key(x, Rows.flipped(SOME, 100));
        check.due("the last", x.remove(), 1);
        check.due("the last has gone", x.remove(), HashTree.NO);
        check.due("count() stays 0", x.count(), 0);
    }

    private static void whetherTheKeyIsThere() {
        check.sentence("5: Whether THE KEY is there.");
        HashTree x = new HashTree();
        check.due("no keys", x.has(), false);
        for (int bit = 0; bit < 256; bit += 5) {
            Rows.set(x, Rows.bit(bit), bit, 0, 0, 0);
            check.due("after set", x.has(), true);
        }
        for (int bit = 0; bit < 256; bit++) {
            Rows.key(x, Rows.bit(bit));
            check.due("bit " + bit, x.has(), bit % 5 == 0);
        }
        Rows.key(x, Rows.EMPTY);
        check.due("0 0 0 0 among them", x.has(), false);
        Rows.set(x, SOME, 0, 0, 0, 0);
        check.due("a value of zeros is one", x.has(), true);
        x.remove();
        check.due("after remove()", x.has(), false);
        x.prove();
        check.due("prove() makes none", x.has(), false);
    }

    private static void numberOfTheKeysValue() {
        check.sentence("6: Number i (0 .. 3) of THE KEY's value");
        HashTree x = new HashTree();
        Rows.set(x, SOME, Long.MIN_VALUE, -1, 1, Long.MAX_VALUE);
        check.due("value(0)", x.value(0), Long.MIN_VALUE);
        check.due("value(1)", x.value(1), -1);
        check.due("value(2)", x.value(2), 1);
        check.due("value(3)", x.value(3), Long.MAX_VALUE);
        x.set(11, 12, 13, 14);
        check.due("the new value", Rows.value(x), Rows.row(11, 12, 13, 14));
        Rows.set(x, Rows.flipped(SOME, 255), 21, 22, 23, 24);
        check.due("the key beside it", Rows.value(x), Rows.row(21, 22, 23, 24));
        Rows.key(x, SOME);
        check.due("the first key again", Rows.value(x), Rows.row(11, 12, 13, 14));
    }

    private static void zeroWhenItIsNotThere() {
        check.sentence("6: 0 when it is not there");
        HashTree x = new HashTree();
        check.due("no keys", Rows.value(x), Rows.EMPTY);
        Rows.set(x, SOME, 1, 2, 3, 4);
        for (int bit = 0; bit < 256; bit++) {
            Rows.key(x, Rows.flipped(SOME, bit));
            check.due("beside it by bit " + bit, Rows.value(x), Rows.EMPTY);
        }
        Rows.key(x, SOME);
        check.due("it is there", Rows.value(x), Rows.row(1, 2, 3, 4));
        x.remove();
        check.due("it went", Rows.value(x), Rows.EMPTY);
        check.due("and no such number", x.value(4), 0);
    }

    private static void zeroWhenThereIsNoSuchNumber() {
        check.sentence("6: or there is no such number.");
        HashTree x = new HashTree();
        x.set(1, 2, 3, 4);
        for (int i : Rows.NO_NUMBERS) {
            check.due("value(" + i + ")", x.value(i), 0);
        }
        check.due("the ones beside", Rows.value(x), Rows.row(1, 2, 3, 4));
    }

    private static void howManyKeysThereAre() {
        check.sentence("7: How many keys there are.");
        HashTree x = new HashTree();
        check.due("none", x.count(), 0);
        check.due("refused remove()", x.remove() + x.count(), HashTree.NO);
        for (int n = 0; n < 512; n++) {
            Rows.key(x, Rows.spread(n));
            check.due("key() adds none", x.count(), n);
            x.set(n, 0, 0, 0);
            check.due("a new key", x.count(), n + 1);
            x.set(n, 0, 0, 1);
            check.due("a new value", x.count(), n + 1);
        }
        Rows.set(x, Rows.spread(512), 1, 1, 1, 1);
        check.due("refused set()", x.count(), 512);
        for (int n = 511; n >= 0; n--) {
            Rows.key(x, Rows.spread(n));
            x.remove();
            check.due("a key less", x.count(), n);
            x.remove();
            check.due("refused remove()", x.count(), n);
        }
    }
}
