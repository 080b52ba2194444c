import java.lang.reflect.Constructor;
import java.lang.reflect.Field;
import java.lang.reflect.Method;
import java.lang.reflect.Modifier;
import java.util.Arrays;
import java.util.Set;
import java.util.TreeSet;

/** The face is the document's, member by member: nothing is missing and nothing else can be seen. */
public final class FaceTest {
    private static final String[] FACE = {
        "public HeatOrder()",
        "public int HeatOrder.heat(int,int,int,int,int,int)"
            + " throws java.lang.IllegalStateException,java.lang.IllegalArgumentException",
        "public void HeatOrder.due(int,int)"
            + " throws java.lang.IndexOutOfBoundsException,java.lang.IllegalArgumentException",
        "public void HeatOrder.rules(int,int,int,int,int) throws java.lang.IllegalArgumentException",
        "public void HeatOrder.costs(int,int) throws java.lang.IllegalArgumentException",
        "public void HeatOrder.move(int,int,int)"
            + " throws java.lang.IndexOutOfBoundsException,java.lang.IllegalArgumentException",
        "public int HeatOrder.run(int) throws java.lang.IllegalArgumentException",
        "public int HeatOrder.planned(int)"
            + " throws java.lang.IndexOutOfBoundsException,java.lang.IllegalStateException",
        "public int HeatOrder.step(int,int)"
            + " throws java.lang.IndexOutOfBoundsException,java.lang.IllegalStateException",
        "public int HeatOrder.told(int)"
            + " throws java.lang.IndexOutOfBoundsException,java.lang.IllegalStateException",
        "public int HeatOrder.tell(int,int)"
            + " throws java.lang.IndexOutOfBoundsException,java.lang.UnsupportedOperationException",
        "public int HeatOrder.bound()",
        "public int HeatOrder.clash()",
    };

    public static void main(String[] args) {
        Set<String> seen = new TreeSet<>();
        Set<String> publicNames = new TreeSet<>();
        Set<String> privateNames = new TreeSet<>();
        for (Constructor<?> made : HeatOrder.class.getDeclaredConstructors()) {
            seen.add(made.toString());
        }
        for (Method method : HeatOrder.class.getDeclaredMethods()) {
            if (Modifier.isPrivate(method.getModifiers())) {
                privateNames.add(method.getName());
            } else {
                seen.add(method.toString());
                publicNames.add(method.getName());
            }
        }
        for (Field field : HeatOrder.class.getDeclaredFields()) {
            if (!Modifier.isPrivate(field.getModifiers())) {
                seen.add(field.toString());
            }
        }
        Check.report("the face", new TreeSet<>(Arrays.asList(FACE)).toString(), seen.toString());
        Check.report("the class", "public final", Modifier.toString(HeatOrder.class.getModifiers()));
        privateNames.retainAll(publicNames);
        Check.report("private methods with a public name", "[]", privateNames.toString());
        for (Class<?> inside : HeatOrder.class.getDeclaredClasses()) {
            int modifiers = inside.getModifiers();
            boolean hidden = !Modifier.isPublic(modifiers) && !Modifier.isProtected(modifiers);
            Check.report(inside + " is static and not to be seen", "true",
                    Boolean.toString(hidden && Modifier.isStatic(modifiers)));
        }
        Check.end();
    }
}
