import java.lang.reflect.Constructor;
import java.lang.reflect.Field;
import java.lang.reflect.Member;
import java.lang.reflect.Method;
import java.lang.reflect.Modifier;
import java.util.Arrays;
import java.util.Set;
import java.util.TreeSet;

/** The class has the document's face and nothing beside it. */
public final class FaceTest {
    private static final Set<String> FACE = new TreeSet<>(Arrays.asList(
        "BAD", "NONE", "FULL", "SharedTrees(int)",
        "write(int,int,int)", "spread(int,int,int,int,int)", "read(int,int)", "erase(int,int)",
        "cut(int,int,int)", "next(int,int)", "clone(int,int)", "drop(int)", "keep()", "back()",
        "keys(int)", "check()"));

    public static void main(String[] args) {
        Due due = new Due();
        due.holds("public", Modifier.isPublic(SharedTrees.class.getModifiers()));
        due.holds("final", Modifier.isFinal(SharedTrees.class.getModifiers()));
        Set<String> face = new TreeSet<>();
        for (Field field : SharedTrees.class.getDeclaredFields()) {
            if (isOpen(field)) {
                face.add(field.getName());
                due.holds(field.getName() + " is a constant int",
                    field.getType() == int.class && Modifier.isStatic(field.getModifiers())
                    && Modifier.isFinal(field.getModifiers()));
            }
        }
        for (Constructor<?> constructor : SharedTrees.class.getDeclaredConstructors()) {
            if (isOpen(constructor)) {
                face.add("SharedTrees" + parameters(constructor.getParameterTypes()));
            }
        }
        Set<String> names = new TreeSet<>();
        for (Method method : SharedTrees.class.getDeclaredMethods()) {
            if (isOpen(method)) {
                face.add(method.getName() + parameters(method.getParameterTypes()));
                names.add(method.getName());
                due.holds(method.getName() + " is public, answers an int and belongs to the object",
                    Modifier.isPublic(method.getModifiers()) && method.getReturnType() == int.class
                    && !Modifier.isStatic(method.getModifiers()));
            }
        }
        due.holds("the face is " + FACE + ", not " + face, face.equals(FACE));
        for (Class<?> inside : SharedTrees.class.getDeclaredClasses()) {
            due.holds(inside + " is static", Modifier.isStatic(inside.getModifiers()));
            for (Method method : inside.getDeclaredMethods()) {
                due.holds(inside + " has no " + method.getName(), !names.contains(method.getName()));
            }
        }
        due.end();
    }

    private static boolean isOpen(Member member) {
        return !member.isSynthetic() && !Modifier.isPrivate(member.getModifiers());
    }

    private static String parameters(Class<?>[] types) {
        StringBuilder text = new StringBuilder();
        for (Class<?> type : types) {
            text.append(text.length() == 0 ? "" : ",").append(type.getName());
        }
        return "(" + text + ")";
    }
}
