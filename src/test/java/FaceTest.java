import java.lang.reflect.Constructor;
import java.lang.reflect.Field;
import java.lang.reflect.Method;
import java.lang.reflect.Modifier;
import java.util.TreeSet;

/** The public face: each member that the document names, and no other that is not private. */
public final class FaceTest {
    private static final String[] DUE = {
        "int put(int int int) throws IllegalArgumentException IllegalStateException",
        "int payBack(int) throws IllegalArgumentException IllegalStateException",
        "void forfeit(int) throws IllegalArgumentException IllegalStateException",
        "int undo(int) throws IllegalArgumentException IllegalStateException",
        "int amnesty(int int) throws IllegalArgumentException",
        "int records()",
        "int sum(int) throws IllegalArgumentException",
        "boolean isForfeited(int) throws IllegalArgumentException",
        "int heldBy(int) throws IllegalArgumentException",
        "int kept()",
        "int paidBack()",
        "int pass(int) throws IllegalArgumentException IllegalStateException",
        "int today()",
        "int pages()",
        "int size(int) throws IndexOutOfBoundsException",
        "int at(int int) throws IndexOutOfBoundsException",
        "int pageOf(int) throws IllegalArgumentException",
        "void sweep() throws IllegalStateException",
        "int step(int) throws IllegalArgumentException IllegalStateException",
        "int sweeping()",
        "int walk(int) throws IllegalArgumentException",
    };

    public static void main(String[] args) {
        Check check = new Check("FaceTest");
        Class<?> face = PageBail.class;
        check.holds("Terms", "The constants: `NONE = -1`: There is none.");
        check.due("NONE", -1, PageBail.NONE);
        check.holds("The public face", "public final class PageBail");
        check.due("the class's modifiers", Modifier.PUBLIC | Modifier.FINAL, face.getModifiers());
        check.due("the methods", new TreeSet<>(java.util.List.of(DUE)), methodsOf(face));
        check.due("the fields", "[NONE]", fieldsOf(face).toString());
        check.due("the number of constructors", 1, face.getDeclaredConstructors().length);
        Constructor<?> only = face.getDeclaredConstructors()[0];
        check.due("the constructor's modifiers", Modifier.PUBLIC, only.getModifiers());
        check.due("the constructor's parameters", 0, only.getParameterCount());
        for (Class<?> inside : face.getDeclaredClasses()) {
            check.due(inside + " is static", true, Modifier.isStatic(inside.getModifiers()));
            check.due(inside + " is public", false, Modifier.isPublic(inside.getModifiers()));
        }
        check.end();
    }

    private static TreeSet<String> methodsOf(Class<?> face) {
        TreeSet<String> found = new TreeSet<>();
        for (Method method : face.getDeclaredMethods()) {
            if (!Modifier.isPrivate(method.getModifiers())) {
                String text = method.getReturnType() + " " + method.getName();
                text += "(" + names(method.getParameterTypes()) + ")";
                String thrown = names(method.getExceptionTypes());
                text += thrown.isEmpty() ? "" : " throws " + thrown;
                boolean plain = method.getModifiers() == Modifier.PUBLIC;
                found.add(plain ? text : Modifier.toString(method.getModifiers()) + " " + text);
            }
        }
        return found;
    }

    private static String names(Class<?>[] types) {
        StringBuilder text = new StringBuilder();
        for (Class<?> type : types) {
            text.append(text.length() == 0 ? "" : " ").append(type.getSimpleName());
        }
        return text.toString();
    }

    private static TreeSet<String> fieldsOf(Class<?> face) {
        TreeSet<String> found = new TreeSet<>();
        for (Field field : face.getDeclaredFields()) {
            if (!Modifier.isPrivate(field.getModifiers())) {
                found.add(field.getName());
            }
        }
        return found;
    }
}
