import java.lang.reflect.Constructor;
import java.lang.reflect.Field;
import java.lang.reflect.Method;
import java.lang.reflect.Modifier;
import java.util.Set;
import java.util.TreeSet;

/** The public face is the document's, and nothing more can be seen from outside. */
public final class FaceTest {
    private static final Set<String> DUE = Set.of(
            "int NONE = -1", "int OUTSIDE = -2", "int CUT = -3", "int DAMAGED = -4", "int DOWN = -5",
            "int FULL = -6", "new(int)", "int type(int)", "int put(int)", "int remove(int)",
            "int drop(int)", "int length(int,int)", "int find(int,int,int)", "int next(int,int)",
            "int crash(int)", "int reopen()", "int poke(int,int,int)", "int byteAt(int,int)",
            "int badAt()", "int count(int)", "int written()", "boolean isDown()");

    public static void main(String[] args) throws IllegalAccessException {
        Set<String> seen = new TreeSet<>();
        for (Field field : DesignPages.class.getDeclaredFields()) {
            int bits = field.getModifiers();
            if (!Modifier.isPrivate(bits)) {
                Check.due(field + " is a public constant",
                        Modifier.isPublic(bits) && Modifier.isStatic(bits) && Modifier.isFinal(bits), true);
                seen.add(field.getType() + " " + field.getName() + " = " + field.get(null));
            }
            Check.due(field + " is no static state", Modifier.isStatic(bits) && !Modifier.isFinal(bits), false);
        }
        for (Constructor<?> made : DesignPages.class.getDeclaredConstructors()) {
            Check.due(made + " is public", Modifier.isPublic(made.getModifiers()), true);
            seen.add("new" + types(made.getParameterTypes()));
        }
        for (Method method : DesignPages.class.getDeclaredMethods()) {
            if (!Modifier.isPrivate(method.getModifiers()) && !method.isSynthetic()) {
                Check.due(method + " is public", Modifier.isPublic(method.getModifiers()), true);
                seen.add(method.getReturnType() + " " + method.getName() + types(method.getParameterTypes()));
            }
        }
        Check.due("the class is final", Modifier.isFinal(DesignPages.class.getModifiers()), true);
        for (String member : DUE) {
            Check.due("there is " + member, seen.contains(member), true);
        }
        for (String member : seen) {
            Check.due("the document has " + member, DUE.contains(member), true);
        }
        Check.end();
    }

    private static String types(Class<?>[] types) {
        StringBuilder text = new StringBuilder("(");
        for (int i = 0; i < types.length; i++) {
            text.append(i == 0 ? "" : ",").append(types[i].getName());
        }
        return text.append(")").toString();
    }
}
