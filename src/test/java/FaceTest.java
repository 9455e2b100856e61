import java.lang.reflect.Constructor;
import java.lang.reflect.Executable;
import java.lang.reflect.Field;
import java.lang.reflect.Method;
import java.lang.reflect.Modifier;
import java.util.ArrayList;
import java.util.Arrays;
import java.util.List;
import java.util.Set;
import java.util.TreeSet;
import java.util.stream.Collectors;

/** The public face: just the document's constants, constructor and methods, with their exceptions. */
public final class FaceTest {
    private static final Set<String> FACE = new TreeSet<>(List.of(
        "int END",
        "PairedWords()",
        "int pair(int, int) IllegalArgumentException IllegalStateException",
        "int rule(int, int) IllegalArgumentException IllegalStateException",
        "int context(int, boolean, boolean) IllegalArgumentException IllegalStateException",
        "int element(int, boolean, int, boolean) IllegalArgumentException IllegalStateException",
        "int entry(int, int) IllegalArgumentException IllegalStateException",
        "int spell(int, int) IllegalArgumentException IllegalStateException",
        "int type(boolean, int) IllegalArgumentException IllegalStateException",
        "int wipe(boolean)",
        "boolean belong()",
        "int blame()",
        "int write() IllegalStateException",
        "int analyse() IllegalStateException",
        "int length(int, boolean) IndexOutOfBoundsException",
        "int result(int, int, boolean) IndexOutOfBoundsException",
        "int sample() IllegalStateException",
        "int check()"));

    public static void main(String[] args) {
        Class<PairedWords> c = PairedWords.class;
        Story.claim("public and final", Modifier.isPublic(c.getModifiers()) && Modifier.isFinal(c.getModifiers()));
        Story.claim("no package", c.getPackageName().isEmpty());
        Set<String> seen = new TreeSet<>();
        for (Field field : c.getDeclaredFields()) {
            if (!Modifier.isPrivate(field.getModifiers())) {
                Story.claim(field.getName() + " is constant", Modifier.toString(field.getModifiers())
                    .equals("public static final"));
                seen.add(field.getType() + " " + field.getName());
            }
        }
        for (Constructor<?> constructor : c.getDeclaredConstructors()) {
            addIfSeen(constructor, "", seen);
        }
        for (Method method : c.getDeclaredMethods()) {
            addIfSeen(method, method.getReturnType() + " ", seen);
        }
        Story.claim("the face is " + FACE + ", not " + seen, FACE.equals(seen));
        for (Class<?> inside : c.getDeclaredClasses()) {
            Story.claim(inside + " is static, and not public", Modifier.isStatic(inside.getModifiers())
                && !Modifier.isPublic(inside.getModifiers()) && !Modifier.isProtected(inside.getModifiers()));
        }
        language(c);
        Story.end();
    }

    /** What of LANGUAGE.md can be seen from outside: rules 1, 5 and 11. */
    private static void language(Class<?> c) {
        Set<String> publicNames = Arrays.stream(c.getMethods()).filter(m -> m.getDeclaringClass() == c)
            .map(Method::getName).collect(Collectors.toSet());
        Story.claim("at most twelve classes", c.getDeclaredClasses().length + 1 <= 12);
        List<Class<?>> all = new ArrayList<>(List.of(c.getDeclaredClasses()));
        all.add(c);
        for (Class<?> one : all) {
            int ofObjects = 0;
            for (Field field : one.getDeclaredFields()) {
                boolean isStatic = Modifier.isStatic(field.getModifiers());
                ofObjects += isStatic ? 0 : 1;
                Story.claim(field + " is final if static", !isStatic || Modifier.isFinal(field.getModifiers()));
            }
            Story.claim(one + " has at most twenty fields", ofObjects <= 20);
            for (Method method : one.getDeclaredMethods()) {
                Story.claim(method + " takes at most seven parameters", method.getParameterCount() <= 7);
                Story.claim(method + " has a name of its own", !Modifier.isPrivate(method.getModifiers())
                    || !publicNames.contains(method.getName()));
            }
        }
    }

    private static void addIfSeen(Executable e, String answer, Set<String> seen) {
        if (Modifier.isPrivate(e.getModifiers())) {
            return;
        }
        Story.claim(e + " is public, not static", Modifier.toString(e.getModifiers()).equals("public"));
        seen.add(answer + e.getName() + Arrays.stream(e.getParameterTypes()).map(Class::getName)
            .collect(Collectors.joining(", ", "(", ")")) + Arrays.stream(e.getExceptionTypes())
            .map(t -> " " + t.getSimpleName()).sorted().collect(Collectors.joining()));
    }
}
