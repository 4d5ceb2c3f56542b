import java.io.IOException;
import java.lang.reflect.Field;
import java.lang.reflect.Method;
import java.lang.reflect.Modifier;
import java.nio.file.Files;
import java.nio.file.Path;
import java.util.ArrayList;
import java.util.List;
import java.util.Set;
import java.util.regex.Matcher;
import java.util.regex.Pattern;

/** Rules of LANGUAGE.md, as far as words, types and lengths show them; rule 1 is FaceTest's. */
public final class LanguageTest {
    private static final Path SOURCE = Path.of("src/main/java/NumberStreams.java");
    private static final Set<Class<?>> CONSTANTS = Set.of(int.class, long.class, boolean.class, char.class, String.class);
    /** What the class is known to use. A new name here is first looked for in rule 4. */
    private static final Set<String> LIBRARY = Set.of("Integer.rotateLeft", "Integer.rotateRight");

    private final Due due = new Due();
    private final String code;
    private final List<Class<?>> classes = new ArrayList<>();

    private LanguageTest(String code) {
        this.code = code;
        classes.add(NumberStreams.class);
        classes.addAll(List.of(NumberStreams.class.getDeclaredClasses()));
    }

    public static void main(String[] args) throws IOException {
        LanguageTest test = new LanguageTest(withoutComments(Files.readString(SOURCE)));
        test.forbiddenWordsAreAbsent();
        test.libraryIsAsKnown();
        test.classesInsideAreStatic();
        test.typesAreAllowed();
        test.staticFieldsAreConstants();
        test.sizesAreSmall();
        test.due.end();
    }

    private static String withoutComments(String text) {
        return text.replaceAll("(?s)/\\*.*?\\*/", "").replaceAll("//[^\n]*", "");
    }

    private void forbiddenWordsAreAbsent() {
        due.sentence("the program is one file without a package line; rule 4: the library");
        absent("\\bpackage\\b", "\\bimport\\b", "\\bjava\\.", "\\bjavax\\.");
        due.sentence("rule 2: no local or anonymous class, no lambda, no method reference");
        absent("->", "::", "\\bnew \\w+\\([^()]*\\) *\\{");
        due.sentence("rule 5: no static initialiser block");
        absent("\\bstatic *\\{");
        due.sentence("rule 6: no throw, try, catch, synchronized, assert");
        absent("\\bthrows?\\b", "\\btry\\b", "\\bcatch\\b", "\\bfinally\\b", "\\bsynchronized\\b", "\\bassert\\b");
        due.sentence("rule 6: no equals, hashCode or toString of your own objects");
        absent("\\bequals\\b", "\\bhashCode\\b", "\\btoString\\b");
        due.sentence("rule 9: every loop has an end that can be seen from its own lines");
        absent("\\bwhile *\\( *true *\\)", "\\bfor *\\([^;]*; *;");
    }

    private void absent(String... patterns) {
        for (String pattern : patterns) {
            Matcher found = Pattern.compile(pattern).matcher(code);
            due.is(pattern + " is found", found.find(), false);
        }
    }

    private void libraryIsAsKnown() {
        due.sentence("rule 4: the library, only what stands here; rule 13: no clock, no randomness");
        Matcher uses = Pattern.compile("\\b([A-Z]\\w*[a-z]\\w*)\\.(\\w+)").matcher(code);
        while (uses.find()) {
            boolean isOwn = classes.stream().anyMatch(type -> type.getSimpleName().equals(uses.group(1)));
            due.is(uses.group() + " is known", isOwn || LIBRARY.contains(uses.group()), true);
        }
    }

    private void classesInsideAreStatic() {
        due.sentence("rule 2: static nested classes");
        for (Class<?> inside : NumberStreams.class.getDeclaredClasses()) {
            due.is(inside + " is static", Modifier.isStatic(inside.getModifiers()), true);
            due.is(inside + " holds classes", inside.getDeclaredClasses().length, 0);
        }
    }

    private void typesAreAllowed() {
        due.sentence("rule 3: types");
        for (Class<?> type : classes) {
            for (Field field : type.getDeclaredFields()) {
                allowed(field.toString(), field.getType());
            }
            for (Method method : type.getDeclaredMethods()) {
                allowed(method.toString(), method.getReturnType());
                for (Class<?> parameter : method.getParameterTypes()) {
                    allowed(method.toString(), parameter);
                }
            }
        }
    }

    private void allowed(String where, Class<?> type) {
        Class<?> element = type;
        int dimensions = 0;
        while (element.isArray()) {
            element = element.getComponentType();
            dimensions++;
        }
        boolean isKnown = element.isPrimitive() || classes.contains(element) || element == String.class;
        due.is(where + " uses " + type, isKnown && dimensions <= (element.isPrimitive() ? 2 : 1), true);
    }

    private void staticFieldsAreConstants() {
        due.sentence("rule 5: static fields are final constants of int, long, boolean, char or String");
        for (Class<?> type : classes) {
            for (Field field : type.getDeclaredFields()) {
                if (Modifier.isStatic(field.getModifiers())) {
                    boolean isFinal = Modifier.isFinal(field.getModifiers());
                    due.is(field.toString(), isFinal && CONSTANTS.contains(field.getType()), true);
                }
            }
        }
    }

    private void sizesAreSmall() {
        due.sentence("rule 11: at most seven parameters, some sixty lines, twelve classes, twenty fields");
        due.is(classes.size() + " classes are too many", classes.size() > 12, false);
        for (Class<?> type : classes) {
            long fields = List.of(type.getDeclaredFields()).stream()
                .filter(field -> !Modifier.isStatic(field.getModifiers())).count();
            due.is(type + " has too many fields: " + fields, fields > 20, false);
            for (Method method : type.getDeclaredMethods()) {
                due.is(method + " has too many parameters", method.getParameterCount() > 7, false);
            }
        }
        bodiesAreShort();
    }

    /** A method's head ends with ") {", four or eight places in; its body ends with a bracket as far in as the head. */
    private void bodiesAreShort() {
        int seen = 0;
        Matcher bodies = Pattern.compile("(?ms)^( {4}| {8})(\\S[^\n]*\\)) \\{\n(.*?)^\\1\\}").matcher(code);
        while (bodies.find()) {
            seen++;
            long lines = bodies.group(3).lines().count();
            due.is(bodies.group(2) + " has too many lines: " + lines, lines > 60, false);
        }
        int made = 0;
        for (Class<?> type : classes) {
            made += type.getDeclaredMethods().length + type.getDeclaredConstructors().length;
        }
        due.is("methods and constructors whose lines were counted", seen, made);
    }
}
