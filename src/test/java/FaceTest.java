import java.lang.reflect.Constructor;
import java.lang.reflect.Field;
import java.lang.reflect.Method;
import java.lang.reflect.Modifier;
import java.util.Set;
import java.util.TreeSet;

/** The class shows the document's face and nothing else. */
public final class FaceTest {
    private static final Set<String> FACE = Set.of(
        "int put(int) IllegalArgumentException IllegalStateException",
        "int add() IllegalStateException",
        "int open() IllegalStateException",
        "int close() IllegalStateException",
        "int assume(int) IllegalArgumentException IllegalStateException",
        "int free()",
        "int least()",
        "int next() IllegalStateException",
        "boolean can()",
        "boolean forced(int) IllegalArgumentException",
        "boolean blames(int) NoSuchElementException",
        "int count(int) IllegalArgumentException",
        "int value(int) IllegalArgumentException IllegalStateException",
        "int look(int) IllegalArgumentException");

    public static void main(String[] args) {
        int wrong = 0;
        wrong += check(ClauseYard.class.getModifiers() == (Modifier.PUBLIC | Modifier.FINAL), "the class's modifiers");
        wrong += check(shownMethods().equals(FACE), "the methods shown: " + shownMethods());
        for (Field field : ClauseYard.class.getDeclaredFields()) {
            wrong += check(Modifier.isPrivate(field.getModifiers()), "field " + field.getName() + " is shown");
        }
        wrong += memoryMadeLater(ClauseYard.class);
        for (Class<?> inside : ClauseYard.class.getDeclaredClasses()) {
            int modifiers = inside.getModifiers();
            wrong += check(Modifier.isStatic(modifiers) && !Modifier.isPublic(modifiers)
                && !Modifier.isProtected(modifiers), "class " + inside.getSimpleName() + " is shown");
            wrong += memoryMadeLater(inside);
        }
        Constructor<?>[] constructors = ClauseYard.class.getDeclaredConstructors();
        wrong += check(constructors.length == 1 && constructors[0].getParameterCount() == 0
            && Modifier.isPublic(constructors[0].getModifiers()), "the constructors");
        System.out.println(wrong == 0 ? "the face is the document's" : "the face is not the document's");
        if (wrong != 0) {
            System.exit(1);
        }
    }

    private static int check(boolean holds, String what) {
        if (!holds) {
            System.out.println("wrong: " + what);
        }
        return holds ? 0 : 1;
    }

    /** All memory is made once: what a field refers to, it refers to for good. Static fields are constants. */
    private static int memoryMadeLater(Class<?> of) {
        int wrong = 0;
        for (Field field : of.getDeclaredFields()) {
            boolean isFinal = Modifier.isFinal(field.getModifiers());
            wrong += check(isFinal || field.getType().isPrimitive() && !Modifier.isStatic(field.getModifiers()),
                "field " + field.getName() + " is not final");
        }
        return wrong;
    }

    private static Set<String> shownMethods() {
        Set<String> shown = new TreeSet<>();
        for (Method method : ClauseYard.class.getDeclaredMethods()) {
            if (!Modifier.isPrivate(method.getModifiers())) {
                shown.add(signature(method));
            }
        }
        return shown;
    }

    private static String signature(Method method) {
        StringBuilder text = new StringBuilder();
        text.append(method.getReturnType().getSimpleName()).append(' ').append(method.getName()).append('(');
        for (Class<?> parameter : method.getParameterTypes()) {
            text.append(parameter.getSimpleName());
        }
        text.append(')');
        for (Class<?> thrown : method.getExceptionTypes()) {
            text.append(' ').append(thrown.getSimpleName());
        }
        return text.toString();
    }
}
