import java.lang.reflect.Constructor;
import java.lang.reflect.Field;
import java.lang.reflect.Method;
import java.lang.reflect.Modifier;
import java.util.Set;
import java.util.TreeSet;

/** The class has the document's public face, and nothing beside it that is not private. */
public final class FaceTest {
    private static final Set<String> FACE = Set.of(
        "public HashTree()",
        "public static final int HashTree.BAD",
        "public static final int HashTree.NO",
        "public static final int HashTree.FULL",
        "public void HashTree.key(long,long,long,long)",
        "public int HashTree.set(long,long,long,long)",
        "public int HashTree.remove()",
        "public boolean HashTree.has()",
        "public long HashTree.value(int)",
        "public int HashTree.count()",
        "public long HashTree.root(int)",
        "public int HashTree.prove()",
        "public long HashTree.sibling(int,int)",
        "public int HashTree.ending()",
        "public long HashTree.endNumber(int,int)",
        "public long HashTree.digest(long,int,int,int)");

    public static void main(String[] args) {
        Check check = new Check();
        check.sentence("The public face");
        Set<String> face = new TreeSet<>();
        for (Constructor<?> made : HashTree.class.getDeclaredConstructors()) {
            addOpen(face, made.getModifiers(), made.toString());
        }
        for (Field field : HashTree.class.getDeclaredFields()) {
            addOpen(face, field.getModifiers(), field.toString());
        }
        for (Method method : HashTree.class.getDeclaredMethods()) {
            addOpen(face, method.getModifiers(), method.toString());
        }
        for (String member : FACE) {
            check.due("has " + member, face.contains(member), true);
        }
        for (String member : face) {
            check.due("may have " + member, FACE.contains(member), true);
        }
        check.due("public final", HashTree.class.getModifiers(), Modifier.PUBLIC | Modifier.FINAL);
        check.due("BAD", HashTree.BAD, -1);
        check.due("NO", HashTree.NO, -2);
        check.due("FULL", HashTree.FULL, -3);
        check.end();
    }

    private static void addOpen(Set<String> face, int modifiers, String member) {
        if (!Modifier.isPrivate(modifiers)) {
            face.add(member);
        }
    }
}
