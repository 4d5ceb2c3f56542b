import java.lang.reflect.Constructor;
import java.lang.reflect.Field;
import java.lang.reflect.Method;
import java.lang.reflect.Modifier;
import java.util.Set;
import java.util.TreeSet;

/** The public face, and rule 1 of LANGUAGE.md: nothing else can be seen from outside. */
public final class FaceTest {
    private static final Set<String> FACE = Set.of(
        "int make(int, int, int)", "int twin(int)", "boolean release(int)", "long next(int)",
        "boolean jump(int, int)", "int draw(int, int)", "boolean same(int, int)", "int save(int)",
        "int length(int)", "int word(int, int)", "boolean spoil(int, int, int)", "boolean cut(int)",
        "int restore(int)", "boolean seek(int)", "int advance()", "long coordinate(int)",
        "boolean weigh(int, int)", "int pick(int)", "boolean shuffle(int)", "int card(int)");

    public static void main(String[] args) {
        Due due = new Due();
        Class<?> type = NumberStreams.class;
        due.is("public and final", Modifier.isPublic(type.getModifiers()) && Modifier.isFinal(type.getModifiers()), true);
        Set<String> seen = new TreeSet<>();
        for (Method method : type.getDeclaredMethods()) {
            if (!Modifier.isPrivate(method.getModifiers()) && !method.isSynthetic()) {
                due.is(method + " is public", Modifier.isPublic(method.getModifiers()), true);
                seen.add(told(method));
            }
        }
        due.is("the methods " + seen, seen.equals(FACE), true);
        for (Method method : type.getDeclaredMethods()) {
            boolean isSecond = Modifier.isPrivate(method.getModifiers()) && isFaceName(method.getName());
            due.is(method + " bears a public name", isSecond, false);
        }
        for (Class<?> inside : type.getDeclaredClasses()) {
            int modifiers = inside.getModifiers();
            due.is(inside + " is static", Modifier.isStatic(modifiers), true);
            due.is(inside + " is open", Modifier.isPublic(modifiers) || Modifier.isProtected(modifiers), false);
        }
        Constructor<?>[] constructors = type.getDeclaredConstructors();
        due.is("constructors", constructors.length, 1);
        due.is("its parameters", constructors[0].getParameterCount(), 0);
        due.is("it is public", Modifier.isPublic(constructors[0].getModifiers()), true);
        for (Field field : type.getDeclaredFields()) {
            due.is(field + " is private", Modifier.isPrivate(field.getModifiers()), true);
        }
        due.end();
    }

    private static boolean isFaceName(String name) {
        return FACE.stream().anyMatch(method -> method.contains(" " + name + "("));
    }

    private static String told(Method method) {
        StringBuilder text = new StringBuilder();
        for (Class<?> parameter : method.getParameterTypes()) {
            text.append(text.length() == 0 ? "" : ", ").append(parameter);
        }
        return method.getReturnType() + " " + method.getName() + "(" + text + ")";
    }
}
