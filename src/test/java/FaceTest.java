import java.lang.reflect.Constructor;
import java.lang.reflect.Field;
import java.lang.reflect.Method;
import java.lang.reflect.Modifier;
import java.util.Set;
import java.util.TreeSet;

/** The face is the document's, and nothing more of the class can be seen from outside. */
public final class FaceTest {
    private static final Set<String> METHODS = Set.of(
        "public int TwinTrees.make(int,int)",
        "public int TwinTrees.put(int,int,int,int,boolean)",
        "public int TwinTrees.remove(int,int)",
        "public int TwinTrees.copy(int,int)",
        "public long TwinTrees.get(int,int,int)",
        "public int TwinTrees.measure(int,int)",
        "public long TwinTrees.address(int)",
        "public long TwinTrees.row(int,int)",
        "public int TwinTrees.compare(int,int)",
        "public long TwinTrees.difference(int,int)",
        "public int TwinTrees.sweep()",
        "public int TwinTrees.count(int)");
    private static final Set<String> FIELDS = Set.of(
        "public static final int TwinTrees.REFUSED",
        "public static final int TwinTrees.NONE",
        "public static final int TwinTrees.FULL");

    public static void main(String[] args) {
        Checks checks = new Checks();
        checks.due("REFUSED", TwinTrees.REFUSED, -1);
        checks.due("NONE", TwinTrees.NONE, -2);
        checks.due("FULL", TwinTrees.FULL, -3);

        int face = Modifier.PUBLIC | Modifier.FINAL;
        checks.due("the class is public and final", TwinTrees.class.getModifiers(), face);
        Set<String> methods = new TreeSet<>();
        for (Method method : TwinTrees.class.getDeclaredMethods()) {
            if (!method.isSynthetic() && !Modifier.isPrivate(method.getModifiers())) {
                methods.add(method.toString());
            }
        }
        checks.due("the methods are " + methods, methods.equals(METHODS) ? 1 : 0, 1);
        Set<String> fields = new TreeSet<>();
        for (Field field : TwinTrees.class.getDeclaredFields()) {
            if (!field.isSynthetic() && !Modifier.isPrivate(field.getModifiers())) {
                fields.add(field.toString());
            }
        }
        checks.due("the fields are " + fields, fields.equals(FIELDS) ? 1 : 0, 1);
        Constructor<?>[] constructors = TwinTrees.class.getDeclaredConstructors();
        checks.due("constructors", constructors.length, 1);
        checks.due("it is public", constructors[0].getModifiers(), Modifier.PUBLIC);
        checks.end("FaceTest");
    }
}
