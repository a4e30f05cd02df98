import java.lang.reflect.Field;
import java.lang.reflect.Member;
import java.lang.reflect.Method;
import java.lang.reflect.Modifier;
import java.util.Arrays;
import java.util.Set;
import java.util.TreeSet;

/** The public face, and the first rule of LANGUAGE.md: nothing else is to be seen. */
final class FaceTest {
    private static final Set<String> METHODS = new TreeSet<>(Arrays.asList(
            "int feed(int, int) throws IllegalArgumentException, IllegalStateException",
            "int prepare()",
            "int step() throws IllegalStateException",
            "int reset() throws IllegalStateException",
            "int width() throws IllegalStateException",
            "long column(int) throws IllegalStateException, IndexOutOfBoundsException",
            "int rows(int) throws IllegalArgumentException",
            "int all()",
            "int nearest(int, int, boolean) throws IllegalArgumentException, IllegalStateException",
            "void clear()"));

    public static void main(String[] args) {
        Check check = new Check();
        Set<String> seen = new TreeSet<>();
        Set<String> names = new TreeSet<>();
        for (Method method : CursorBase.class.getDeclaredMethods()) {
            if (isSeen(method)) {
                seen.add(faceOf(method));
                names.add(method.getName());
            }
        }
        System.out.println("methods: " + seen);
        check.same("the methods are the face's (1: they are)", seen.equals(METHODS) ? 1 : 0, 1);
        for (Field field : CursorBase.class.getDeclaredFields()) {
            check.same("field " + field.getName() + " is to be seen", isSeen(field) ? 1 : 0,
                    field.getName().equals("NONE") ? 1 : 0);
        }
        check.same("constructors", CursorBase.class.getDeclaredConstructors().length, 1);
        check.same("public constructors", CursorBase.class.getConstructors().length, 1);
        check.same("the class is final", Modifier.isFinal(CursorBase.class.getModifiers()) ? 1 : 0, 1);
        for (Class<?> inner : CursorBase.class.getDeclaredClasses()) {
            check.same(inner.getName() + " is static", Modifier.isStatic(inner.getModifiers()) ? 1 : 0, 1);
            privateNamesDiffer(check, inner, names);
        }
        privateNamesDiffer(check, CursorBase.class, names);
        check.end();
    }

    private static boolean isSeen(Member member) {
        return !Modifier.isPrivate(member.getModifiers());
    }

    private static String faceOf(Method method) {
        String thrown = simpleNames(method.getExceptionTypes());
        return method.getReturnType().getSimpleName() + " " + method.getName()
                + "(" + simpleNames(method.getParameterTypes()) + ")" + (thrown.isEmpty() ? "" : " throws " + thrown);
    }

    private static String simpleNames(Class<?>[] types) {
        StringBuilder names = new StringBuilder();
        for (Class<?> type : types) {
            names.append(names.length() == 0 ? "" : ", ").append(type.getSimpleName());
        }
        return names.toString();
    }

    private static void privateNamesDiffer(Check check, Class<?> owner, Set<String> names) {
        for (Method method : owner.getDeclaredMethods()) {
            boolean clashes = !isSeen(method) && names.contains(method.getName());
            check.same(owner.getName() + "." + method.getName() + " has a public method's name", clashes ? 1 : 0, 0);
        }
    }
}
