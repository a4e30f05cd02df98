import java.lang.reflect.Constructor;
import java.lang.reflect.Field;
import java.lang.reflect.Member;
import java.lang.reflect.Method;
import java.lang.reflect.Modifier;
import java.util.Arrays;
import java.util.Set;
import java.util.TreeSet;

/** The public face, and the first rule of LANGUAGE.md: nothing else is to be seen. */
final class FaceTest {
    private static final Set<String> METHODS = new TreeSet<>(Arrays.asList(
            "public int feed(int, int) throws IllegalArgumentException, IllegalStateException",
            "public int prepare()",
            "public int step() throws IllegalStateException",
            "public int reset() throws IllegalStateException",
            "public int width() throws IllegalStateException",
            "public long column(int) throws IllegalStateException, IndexOutOfBoundsException",
            "public int rows(int) throws IllegalArgumentException",
            "public int all()",
            "public int nearest(int, int, boolean) throws IllegalArgumentException, IllegalStateException",
            "public void clear()"));

    public static void main(String[] args) {
        Check check = new Check();
        Set<String> seen = new TreeSet<>();
        Set<String> names = new TreeSet<>();
        for (Method method : CursorBase.class.getDeclaredMethods()) {
            if (isSeen(method)) {
                seen.add(faceOf(method));
                names.add(method.getName());
            }
        }
        System.out.println("methods: " + seen);
        check.same("the methods are the face's (1: they are)", seen.equals(METHODS) ? 1 : 0, 1);
        onlyNoneIsSeen(check);
        onlyOneConstructor(check);
        isSo(check, "the class is public and final and stands alone",
                CursorBase.class.getModifiers() == (Modifier.PUBLIC | Modifier.FINAL)
                        && CursorBase.class.getSuperclass() == Object.class
                        && CursorBase.class.getInterfaces().length == 0
                        && CursorBase.class.getPackageName().isEmpty());
        for (Class<?> inner : CursorBase.class.getDeclaredClasses()) {
            int open = inner.getModifiers() & (Modifier.PUBLIC | Modifier.PROTECTED);
            isSo(check, inner.getName() + " is static", Modifier.isStatic(inner.getModifiers()));
            isSo(check, inner.getName() + " is private or package-visible", open == 0);
            privateNamesDiffer(check, inner, names);
        }
        privateNamesDiffer(check, CursorBase.class, names);
        check.end();
    }

    private static void isSo(Check check, String what, boolean got) {
        check.same(what + " (1: so it is)", got ? 1 : 0, 1);
    }

    private static void onlyNoneIsSeen(Check check) {
        String seen = "";
        for (Field field : CursorBase.class.getDeclaredFields()) {
            seen += isSeen(field) ? field.toString() + ";" : "";
        }
        isSo(check, "NONE alone is to be seen, not " + seen,
                seen.equals("public static final int CursorBase.NONE;"));
        check.same("NONE", CursorBase.NONE, -1);
    }

    private static void onlyOneConstructor(Check check) {
        Constructor<?>[] constructors = CursorBase.class.getDeclaredConstructors();
        check.same("constructors", constructors.length, 1);
        isSo(check, "the constructor is public CursorBase(), not " + constructors[0],
                constructors[0].toString().equals("public CursorBase()"));
    }

    private static boolean isSeen(Member member) {
        return !Modifier.isPrivate(member.getModifiers());
    }

    private static String faceOf(Method method) {
        String thrown = simpleNames(method.getExceptionTypes());
        return Modifier.toString(method.getModifiers()) + " " + method.getReturnType().getSimpleName()
                + " " + method.getName() + "(" + simpleNames(method.getParameterTypes()) + ")" + (thrown.isEmpty() ? "" : " throws " + thrown);
    }

    private static String simpleNames(Class<?>[] types) {
        StringBuilder names = new StringBuilder();
        for (Class<?> type : types) {
            names.append(names.length() == 0 ? "" : ", ").append(type.getSimpleName());
        }
        return names.toString();
    }

    private static void privateNamesDiffer(Check check, Class<?> owner, Set<String> names) {
        for (Method method : owner.getDeclaredMethods()) {
            boolean clashes = !isSeen(method) && names.contains(method.getName());
            check.same(owner.getName() + "." + method.getName() + " has a public method's name", clashes ? 1 : 0, 0);
        }
    }
}
