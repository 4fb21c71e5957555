import java.lang.reflect.Constructor;
import java.lang.reflect.Field;
import java.lang.reflect.Method;
import java.lang.reflect.Modifier;
import java.util.Arrays;
import java.util.Set;
import java.util.TreeSet;

/** The public face: the document's constants, constructor and methods, and no other visible member. */
public final class FaceTest {
    public static void main(String[] args) {
        Set<String> want = new TreeSet<>(Arrays.asList(
            "public static final int REFUSED", "public static final int NONE", "public static final int FULL",
            "public StackJudge[int]",
            "public int code[int, int]", "public int clear[]", "public int drop[]", "public int check[]",
            "public int heights[int]", "public int call[int, int, int]", "public int result[]",
            "public int steps[]", "public int pairs[]", "public long pair[int, int]"));
        Set<String> got = visibleMembers();
        Due.is("members of the face " + got, got.equals(want) ? 1 : 0, 1);
        Due.is("the class is final and public",
            StackJudge.class.getModifiers() & (Modifier.FINAL | Modifier.PUBLIC), Modifier.FINAL | Modifier.PUBLIC);
        Due.is("REFUSED", StackJudge.REFUSED, -1);
        Due.is("NONE", StackJudge.NONE, -2);
        Due.is("FULL", StackJudge.FULL, -3);
        staticFieldsAreFinal();
        noPrivateNameOfAPublicOne();
        Due.end();
    }

    private static Set<String> visibleMembers() {
        Set<String> members = new TreeSet<>();
        for (Field field : StackJudge.class.getDeclaredFields()) {
            if (!Modifier.isPrivate(field.getModifiers())) {
                members.add(Modifier.toString(field.getModifiers()) + " " + field.getType() + " " + field.getName());
            }
        }
        for (Constructor<?> made : StackJudge.class.getDeclaredConstructors()) {
            if (!Modifier.isPrivate(made.getModifiers())) {
                members.add(Modifier.toString(made.getModifiers()) + " StackJudge"
                    + Arrays.toString(made.getParameterTypes()));
            }
        }
        for (Method method : StackJudge.class.getDeclaredMethods()) {
            if (!Modifier.isPrivate(method.getModifiers())) {
                members.add(Modifier.toString(method.getModifiers()) + " " + method.getReturnType() + " "
                    + method.getName() + Arrays.toString(method.getParameterTypes()));
            }
        }
        return members;
    }

    private static void staticFieldsAreFinal() {
        for (Class<?> inside : StackJudge.class.getDeclaredClasses()) {
            Due.is(inside + " is static", inside.getModifiers() & Modifier.STATIC, Modifier.STATIC);
            for (Field field : inside.getDeclaredFields()) {
                int modifiers = field.getModifiers();
                Due.is(field + " is final if static",
                    Modifier.isStatic(modifiers) && !Modifier.isFinal(modifiers) ? 1 : 0, 0);
            }
        }
    }

    private static void noPrivateNameOfAPublicOne() {
        Set<String> open = new TreeSet<>();
        for (Method method : StackJudge.class.getMethods()) {
            open.add(method.getName());
        }
        for (Class<?> inside : StackJudge.class.getDeclaredClasses()) {
            for (Method method : inside.getDeclaredMethods()) {
                Due.is(method + " bears a public name", open.contains(method.getName()) ? 1 : 0, 0);
            }
        }
        for (Method method : StackJudge.class.getDeclaredMethods()) {
            boolean hidden = !Modifier.isPublic(method.getModifiers());
            Due.is(method + " bears a public name", hidden && open.contains(method.getName()) ? 1 : 0, 0);
        }
    }
}
