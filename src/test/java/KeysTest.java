/** Promises 1 to 7: a new object, key, set, remove, has, value, count. */
public final class KeysTest {
    private static final Check check = new Check();

    public static void main(String[] args) {
        newObject();
        keyAtFirst();
        setAndValue();
        everyNumberOfTheKeyCounts();
        wrongNumbers();
        removing();
        full();
        objectsApart();
        check.end();
    }

    private static void newObject() {
        HashTree x = new HashTree();
        check.due("new: count()", x.count(), 0);
        check.due("new: has()", x.has(), false);
        check.due("new: remove()", x.remove(), HashTree.NO);
        check.due("new: ending()", x.ending(), HashTree.BAD);
        for (int i = -1; i <= 4; i++) {
            check.due("new: value(" + i + ")", x.value(i), 0);
            check.due("new: root(" + i + ")", x.root(i), 0);
            check.due("new: sibling(0, " + i + ")", x.sibling(0, i), 0);
            check.due("new: endNumber(0, " + i + ")", x.endNumber(0, i), 0);
            check.due("new: endNumber(1, " + i + ")", x.endNumber(1, i), 0);
        }
    }

    private static void keyAtFirst() {
        HashTree x = new HashTree();
        check.due("key at first: set", x.set(1, 2, 3, 4), 1);
        x.key(0, 0, 0, 1);
        check.due("key at first: has 1", x.has(), false);
        x.key(0, 0, 0, 0);
        check.due("key at first: has 0", x.has(), true);
    }

    private static void setAndValue() {
        HashTree x = new HashTree();
        x.key(-1, Long.MIN_VALUE, 0, Long.MAX_VALUE);
        check.due("first set", x.set(10, 20, 30, 40), 1);
        check.due("count after it", x.count(), 1);
        check.due("has after it", x.has(), true);
        dueValue(x, "first value", 10, 20, 30, 40);
        check.due("second set", x.set(-10, -20, -30, -40), 0);
        check.due("count after second", x.count(), 1);
        dueValue(x, "second value", -10, -20, -30, -40);
        check.due("set to zeros", x.set(0, 0, 0, 0), 0);
        check.due("a value of zeros is there", x.has(), true);
        dueValue(x, "zeros", 0, 0, 0, 0);
        x.key(1, 1, 1, 1);
        check.due("key does not make it", x.has(), false);
        check.due("count after key", x.count(), 1);
        dueValue(x, "value of none", 0, 0, 0, 0);
    }

    private static void everyNumberOfTheKeyCounts() {
        HashTree x = new HashTree();
        for (int bit = 0; bit < 256; bit += 5) {
            setKeyToBit(x, bit);
            check.due("set of bit " + bit, x.set(bit, 0, 0, 1), 1);
        }
        check.due("count of bits", x.count(), 52);
        for (int bit = 0; bit < 256; bit++) {
            setKeyToBit(x, bit);
            check.due("has bit " + bit, x.has(), bit % 5 == 0);
            check.due("value of bit " + bit, x.value(0), bit % 5 == 0 ? bit : 0);
        }
        x.key(0, 0, 0, 0);
        check.due("no key of zeros", x.has(), false);
    }

    private static void setKeyToBit(HashTree x, int bit) {
        long number = Long.MIN_VALUE >>> bit % 64;
        int at = bit / 64;
        x.key(at == 0 ? number : 0, at == 1 ? number : 0, at == 2 ? number : 0, at == 3 ? number : 0);
    }

    private static void wrongNumbers() {
        HashTree x = new HashTree();
        x.set(1, 2, 3, 4);
        int[] wrong = {-1, 4, 5, Integer.MIN_VALUE, Integer.MAX_VALUE, 1 << 30, -4};
        for (int i : wrong) {
            check.due("value(" + i + ")", x.value(i), 0);
            check.due("root(" + i + ")", x.root(i), 0);
        }
    }

    private static void removing() {
        HashTree x = new HashTree();
        x.key(3, 0, 0, 0);
        x.set(1, 1, 1, 1);
        x.key(2, 0, 0, 0);
        check.due("remove of none", x.remove(), HashTree.NO);
        check.due("count after it", x.count(), 1);
        x.set(2, 2, 2, 2);
        check.due("remove", x.remove(), 1);
        check.due("count after remove", x.count(), 1);
        check.due("has after remove", x.has(), false);
        dueValue(x, "value after remove", 0, 0, 0, 0);
        check.due("remove again", x.remove(), HashTree.NO);
        x.key(3, 0, 0, 0);
        dueValue(x, "the other's value", 1, 1, 1, 1);
        check.due("remove the last", x.remove(), 1);
        check.due("count of none", x.count(), 0);
        check.due("set again", x.set(5, 5, 5, 5), 1);
        dueValue(x, "value set again", 5, 5, 5, 5);
    }

    /** More calls than are promised, but the tree's limit is told and must hold. */
    private static void full() {
        HashTree x = new HashTree();
        for (int i = 0; i < 512; i++) {
            x.key(0, 0, i, 0);
            check.due("set " + i, x.set(i, 0, 0, 0), 1);
        }
        x.key(9, 9, 9, 9);
        check.due("set beyond", x.set(1, 1, 1, 1), HashTree.FULL);
        check.due("has beyond", x.has(), false);
        check.due("count when full", x.count(), 512);
        x.key(0, 0, 77, 0);
        check.due("set of one there when full", x.set(7, 7, 7, 7), 0);
        dueValue(x, "its value", 7, 7, 7, 7);
        check.due("remove when full", x.remove(), 1);
        x.key(9, 9, 9, 9);
        check.due("set after remove", x.set(1, 1, 1, 1), 1);
    }

    private static void objectsApart() {
        HashTree x = new HashTree();
        HashTree y = new HashTree();
        x.key(4, 4, 4, 4);
        x.set(1, 2, 3, 4);
        check.due("other object's count", y.count(), 0);
        check.due("other object's has", y.has(), false);
        y.key(4, 4, 4, 4);
        check.due("other object's set", y.set(9, 9, 9, 9), 1);
        dueValue(x, "first object's value", 1, 2, 3, 4);
    }

    private static void dueValue(HashTree x, String what, long... want) {
        for (int i = 0; i < 4; i++) {
            check.due(what + " " + i, x.value(i), want[i]);
        }
    }
}
