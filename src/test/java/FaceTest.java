import java.lang.reflect.Constructor;
import java.lang.reflect.Field;
import java.lang.reflect.Member;
import java.lang.reflect.Method;
import java.lang.reflect.Modifier;
import java.util.ArrayList;
import java.util.Collections;
import java.util.List;

/** The public face is the document's, and the class has no other member that can be seen (LANGUAGE.md, rule 1). */
public final class FaceTest {
    private static final String[] FACE = {
        "AdaptiveReplacementCache()",
        "int BYPASSED = 6", "int FREQUENT = 2", "int FREQUENT_GHOST = 4", "int MISS = 5", "int NONE = -1",
        "int NOWHERE = 0", "int RECENT = 1", "int RECENT_GHOST = 3",
        "int bypassed()", "int capacity()", "int clear()", "int evictions()",
        "int frequentAt(int) throws IndexOutOfBoundsException",
        "int frequentGhostAt(int) throws IndexOutOfBoundsException",
        "int frequentGhosts()", "int frequentSize()", "int ghostHits()", "int hits()",
        "int hitsIf(int) throws IllegalArgumentException",
        "int leastRecentHitsIf(int) throws IllegalArgumentException",
        "int recentAt(int) throws IndexOutOfBoundsException",
        "int recentGhostAt(int) throws IndexOutOfBoundsException",
        "int recentGhosts()", "int recentSize()",
        "int remove(int) throws IllegalArgumentException",
        "int request(int) throws IllegalArgumentException",
        "int requests()", "int run()",
        "int setCapacity(int) throws IllegalArgumentException",
        "int setScanLength(int) throws IllegalArgumentException",
        "int size()", "int target()", "int victim()",
        "int whereIs(int) throws IllegalArgumentException",
    };

    private static final Check CHECK = new Check();

    public static void main(String[] args) throws IllegalAccessException {
        Class<?> program = AdaptiveReplacementCache.class;
        CHECK.due("the class is public and final", program.getModifiers(), Modifier.PUBLIC | Modifier.FINAL);
        CHECK.dueText("the face", face(program).toString(), sorted(List.of(FACE)).toString());
        hiddenMembers(program);
        for (Class<?> inside : program.getDeclaredClasses()) {
            int modifiers = inside.getModifiers();
            boolean seen = Modifier.isPublic(modifiers) || Modifier.isProtected(modifiers);
            CHECK.due(inside.getName() + " can be seen from outside", seen ? 1 : 0, 0);
        }
        CHECK.end();
    }

    private static List<String> face(Class<?> program) throws IllegalAccessException {
        List<String> face = new ArrayList<>();
        for (Field field : program.getDeclaredFields()) {
            if (!Modifier.isPrivate(field.getModifiers())) {
                face.add(field.getType() + " " + field.getName() + " = " + field.getInt(null));
                CHECK.due(field + " has the modifiers", field.getModifiers(),
                        Modifier.PUBLIC | Modifier.STATIC | Modifier.FINAL);
            }
        }
        for (Method method : program.getDeclaredMethods()) {
            if (!Modifier.isPrivate(method.getModifiers())) {
                face.add(method.getReturnType() + " " + method.getName()
                        + tail(method.getParameterTypes(), method.getExceptionTypes()));
                CHECK.due(method + " has the modifiers", method.getModifiers(), Modifier.PUBLIC);
            }
        }
        for (Constructor<?> constructor : program.getDeclaredConstructors()) {
            face.add(constructor.getName() + tail(constructor.getParameterTypes(), constructor.getExceptionTypes()));
            CHECK.due(constructor + " has the modifiers", constructor.getModifiers(), Modifier.PUBLIC);
        }
        return sorted(face);
    }

    private static String tail(Class<?>[] parameters, Class<?>[] exceptions) {
        return "(" + names(parameters) + ")" + (exceptions.length == 0 ? "" : " throws " + names(exceptions));
    }

    private static String names(Class<?>[] types) {
        List<String> names = new ArrayList<>();
        for (Class<?> type : types) {
            names.add(type.getSimpleName());
        }
        return String.join(", ", names);
    }

    private static List<String> sorted(List<String> texts) {
        List<String> copy = new ArrayList<>(texts);
        Collections.sort(copy);
        return copy;
    }

    private static void hiddenMembers(Class<?> program) {
        List<String> publicNames = new ArrayList<>();
        for (Method method : program.getDeclaredMethods()) {
            if (Modifier.isPublic(method.getModifiers())) {
                publicNames.add(method.getName());
            }
        }
        List<Class<?>> classes = new ArrayList<>(List.of(program.getDeclaredClasses()));
        classes.add(program);
        for (Class<?> one : classes) {
            for (Method method : one.getDeclaredMethods()) {
                boolean clash = !Modifier.isPublic(method.getModifiers()) && publicNames.contains(method.getName());
                CHECK.due(method + " bears the name of a public method", clash ? 1 : 0, 0);
            }
            List<Member> fields = new ArrayList<>(List.of(one.getDeclaredFields()));
            for (Member field : fields) {
                boolean variable = Modifier.isStatic(field.getModifiers()) && !Modifier.isFinal(field.getModifiers());
                CHECK.due(field + " is static and not final (rule 5)", variable ? 1 : 0, 0);
            }
        }
    }
}
