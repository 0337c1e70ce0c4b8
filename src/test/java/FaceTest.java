import java.lang.reflect.Constructor;
import java.lang.reflect.Field;
import java.lang.reflect.Method;
import java.lang.reflect.Modifier;
import java.util.Arrays;
import java.util.TreeSet;

/** The class has the document's face and no more. */
public final class FaceTest {
    private static final String[] FACE = {
        "field public static final int NONE",
        "constructor public DotSheet()",
        "method public void sheet(int, int) throws IllegalArgumentException",
        "method public int way(int) throws IllegalArgumentException",
        "method public int write(int, long) throws IllegalArgumentException",
        "method public int wipe()",
        "method public int frame(int, int, int, int, int) throws IllegalArgumentException",
        "method public int line(int, int, int, int, int) throws IllegalArgumentException",
        "method public int ellipse(int, int, int, int, int) throws IllegalArgumentException",
        "method public void font(int, int, int, int) throws IllegalArgumentException",
        "method public void cell(int, int, int, int) throws IllegalArgumentException, IndexOutOfBoundsException",
        "method public int text(int, int, int, int, int) throws IllegalArgumentException",
        "method public int bars(int, int, int, int, int) throws IllegalArgumentException",
        "method public int square(int, int, int, int, int) throws IllegalArgumentException, IllegalStateException",
        "method public int picture(int, int, int) throws IllegalArgumentException, IllegalStateException",
        "method public void turn(int) throws IllegalArgumentException",
        "method public int told(int) throws IllegalArgumentException",
        "method public int count(int, int, int, int) throws IllegalArgumentException",
        "method public long dots(int, int, int) throws IllegalArgumentException",
        "method public int run(int, int, int, boolean) throws IllegalArgumentException, IndexOutOfBoundsException",
    };

    private static int wrong = 0;

    public static void main(String[] args) {
        TreeSet<String> want = new TreeSet<>(Arrays.asList(FACE));
        TreeSet<String> got = shownMembers();
        for (String member : want) {
            check(got.contains(member), "missing: " + member);
        }
        for (String member : got) {
            check(want.contains(member), "not in the document: " + member);
        }
        check(DotSheet.NONE == -1, "NONE is " + DotSheet.NONE);
        check(Modifier.isPublic(DotSheet.class.getModifiers()) && Modifier.isFinal(DotSheet.class.getModifiers()),
                "the class is not public and final");
        for (Class<?> inside : DotSheet.class.getDeclaredClasses()) {
            check(Modifier.isStatic(inside.getModifiers()) && !Modifier.isPublic(inside.getModifiers())
                    && !Modifier.isProtected(inside.getModifiers()), "the class inside is shown: " + inside);
        }
        System.exit(wrong == 0 ? 0 : 1);
    }

    private static TreeSet<String> shownMembers() {
        TreeSet<String> shown = new TreeSet<>();
        for (Field field : DotSheet.class.getDeclaredFields()) {
            if (!Modifier.isPrivate(field.getModifiers())) {
                shown.add("field " + Modifier.toString(field.getModifiers()) + " " + field.getType().getSimpleName()
                        + " " + field.getName());
            }
        }
        for (Constructor<?> constructor : DotSheet.class.getDeclaredConstructors()) {
            if (!Modifier.isPrivate(constructor.getModifiers())) {
                shown.add("constructor " + Modifier.toString(constructor.getModifiers()) + " DotSheet"
                        + listed("(", constructor.getParameterTypes(), ")")
                        + thrown(constructor.getExceptionTypes()));
            }
        }
        for (Method method : DotSheet.class.getDeclaredMethods()) {
            if (!Modifier.isPrivate(method.getModifiers())) {
                shown.add("method " + Modifier.toString(method.getModifiers()) + " "
                        + method.getReturnType().getSimpleName() + " " + method.getName()
                        + listed("(", method.getParameterTypes(), ")") + thrown(method.getExceptionTypes()));
            }
        }
        return shown;
    }

    private static String thrown(Class<?>[] types) {
        return types.length == 0 ? "" : listed(" throws ", types, "");
    }

    private static String listed(String before, Class<?>[] types, String behind) {
        StringBuilder list = new StringBuilder(before);
        for (int i = 0; i < types.length; i++) {
            list.append(i == 0 ? "" : ", ").append(types[i].getSimpleName());
        }
        return list.append(behind).toString();
    }

    private static void check(boolean holds, String complaint) {
        if (!holds) {
            wrong++;
            System.out.println(complaint);
        }
    }
}
