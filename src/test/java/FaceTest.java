import java.lang.reflect.Constructor;
import java.lang.reflect.Field;
import java.lang.reflect.Method;
import java.lang.reflect.Modifier;
import java.util.Arrays;
import java.util.Set;
import java.util.TreeSet;
import java.util.stream.Collectors;

/** The public face: what the document's first listing has, and nothing else that others can see. */
final class FaceTest {
    private static final Set<String> FACE = Set.of(
            "int NONE",
            "WordShapes(int, int, int)",
            "int feed(int, int, int, int, int) throws IllegalStateException",
            "int end(int) throws IllegalArgumentException, IllegalStateException",
            "int read(int) throws IndexOutOfBoundsException, IllegalArgumentException",
            "int fault(int) throws IndexOutOfBoundsException",
            "int write(int) throws IndexOutOfBoundsException, IllegalStateException, UnsupportedOperationException",
            "int again()",
            "boolean same(int, int) throws IndexOutOfBoundsException",
            "int plan(int, int) throws IndexOutOfBoundsException",
            "int ordinate(int, int, int) throws IndexOutOfBoundsException",
            "int byteAt(int) throws IndexOutOfBoundsException",
            "int count(int, int) throws IndexOutOfBoundsException");

    public static void main(String[] args) {
        hasTheDocumentsMembersAlone();
        isPublicAndFinal();
        showsNoClassInside();
        keepsTheNamesOfTheFace();
        Check.finish();
    }

    private static void hasTheDocumentsMembersAlone() {
        Set<String> seen = new TreeSet<>();
        for (Field field : WordShapes.class.getDeclaredFields()) {
            keep(seen, field.getModifiers(), Modifier.PUBLIC | Modifier.STATIC | Modifier.FINAL,
                    field.getType().getSimpleName() + " " + field.getName());
        }
        for (Constructor<?> made : WordShapes.class.getDeclaredConstructors()) {
            keep(seen, made.getModifiers(), Modifier.PUBLIC,
                    "WordShapes(" + names(made.getParameterTypes()) + ")" + thrown(made.getExceptionTypes()));
        }
        for (Method method : WordShapes.class.getDeclaredMethods()) {
            keep(seen, method.getModifiers(), Modifier.PUBLIC,
                    method.getReturnType().getSimpleName() + " " + method.getName()
                            + "(" + names(method.getParameterTypes()) + ")" + thrown(method.getExceptionTypes()));
        }
        Check.due("the members that are not private", seen.toString(), new TreeSet<>(FACE).toString());
    }

    private static void keep(Set<String> seen, int modifiers, int due, String member) {
        if (!Modifier.isPrivate(modifiers)) {
            seen.add(member);
            Check.due("modifiers of " + member, modifiers, due);
        }
    }

    private static String names(Class<?>[] types) {
        return Arrays.stream(types).map(Class::getSimpleName).collect(Collectors.joining(", "));
    }

    private static String thrown(Class<?>[] types) {
        return types.length == 0 ? "" : " throws " + names(types);
    }

    private static void isPublicAndFinal() {
        Check.due("modifiers of the class", WordShapes.class.getModifiers(), Modifier.PUBLIC | Modifier.FINAL);
        Check.due("what it extends", WordShapes.class.getSuperclass().getSimpleName(), "Object");
        Check.due("what it implements", WordShapes.class.getInterfaces().length, 0);
        Check.due("NONE", WordShapes.NONE, -1);
    }

    /** LANGUAGE.md, rule 1: classes inside are static, and private or package-visible. */
    private static void showsNoClassInside() {
        for (Class<?> inside : WordShapes.class.getDeclaredClasses()) {
            int modifiers = inside.getModifiers();
            Check.due(inside + " is static", Modifier.isStatic(modifiers) ? 1 : 0, 1);
            Check.due(inside + " is seen", modifiers & (Modifier.PUBLIC | Modifier.PROTECTED), 0);
        }
    }

    /** LANGUAGE.md, rules 1 and 11: no private method has a public one's name, none takes more than seven. */
    private static void keepsTheNamesOfTheFace() {
        Set<String> names = new TreeSet<>();
        for (Method method : WordShapes.class.getMethods()) {
            names.add(method.getName());
        }
        dueOwnNames(names, WordShapes.class);
        for (Class<?> inside : WordShapes.class.getDeclaredClasses()) {
            dueOwnNames(names, inside);
        }
    }

    private static void dueOwnNames(Set<String> names, Class<?> type) {
        for (Method method : type.getDeclaredMethods()) {
            boolean isFace = type == WordShapes.class && Modifier.isPublic(method.getModifiers());
            Check.due(method + " has a name of the face", names.contains(method.getName()) ? 1 : 0, isFace ? 1 : 0);
            Check.due(method + " takes at most seven", Math.max(7, method.getParameterCount()), 7);
        }
    }
}
