import java.lang.reflect.Array;
import java.lang.reflect.Constructor;
import java.lang.reflect.Field;
import java.lang.reflect.Member;
import java.lang.reflect.Method;
import java.lang.reflect.Modifier;
import java.nio.file.Files;
import java.nio.file.Path;
import java.util.Arrays;
import java.util.IdentityHashMap;
import java.util.Map;
import java.util.Set;
import java.util.TreeSet;

/** The face of the class is the document's, its file keeps to the language, and its objects stay small. */
public final class FaceTest {
    private static final Checks checks = new Checks();

    private static final String[] FACE = {
        "int object(int)", "int put(int, int, long)", "int refer(int, int)", "int row(int, int)",
        "int item(int, int, long)", "int drop(int)", "boolean type(long, int)", "int query() IllegalStateException",
        "int size(int, int)", "int got(int, int)", "long key(int, int) NoSuchElementException",
        "long group(int, int, int) NoSuchElementException", "int differ(int, int)", "int uses(int, int)",
        "long look(int, int) NoSuchElementException"};

    private static final String[] RULED_OUT = {"->", "::", "catch", "try", "finally", "synchronized", "assert",
        "static {", "System.", "Random", "Thread", "package ", "Exact", "var ", "while"};

    public static void main(String[] args) throws Exception {
        face();
        file();
        room();
        checks.end();
    }

    private static void face() {
        Class<?> face = LiveQueries.class;
        checks.due("public and final", face.getModifiers(), Modifier.PUBLIC | Modifier.FINAL);
        Set<String> found = new TreeSet<>();
        Set<String> hidden = new TreeSet<>();
        for (Method method : face.getDeclaredMethods()) {
            if (Modifier.isPublic(method.getModifiers())) {
                found.add(written(method));
            } else {
                checks.due(method + " is private", isPrivate(method), true);
                hidden.add(method.getName());
            }
        }
        same("methods", found, new TreeSet<>(Arrays.asList(FACE)));
        for (String name : hidden) {
            checks.due("private " + name, Arrays.stream(FACE).anyMatch(f -> f.contains(" " + name + "(")), false);
        }
        for (Field field : face.getDeclaredFields()) {
            checks.due(field + "", isPrivate(field), !field.getName().equals("NONE"));
        }
        for (Constructor<?> constructor : face.getDeclaredConstructors()) {
            checks.due("parameters of the constructor", constructor.getParameterCount(), 0);
            checks.due("constructor", constructor.getModifiers(), Modifier.PUBLIC);
        }
        for (Class<?> inside : face.getDeclaredClasses()) {
            checks.due(inside + " is static", Modifier.isStatic(inside.getModifiers()), true);
            checks.due(inside + " has few fields", inside.getDeclaredFields().length <= 20, true);
        }
    }

    private static void same(String what, Set<String> found, Set<String> want) {
        checks.due(what + " " + found + ", due are " + want, found.equals(want), true);
    }

    private static boolean isPrivate(Member member) {
        return Modifier.isPrivate(member.getModifiers());
    }

    private static String written(Method method) {
        String parameters = "";
        for (Class<?> type : method.getParameterTypes()) {
            parameters += (parameters.isEmpty() ? "" : ", ") + type.getSimpleName();
        }
        String text = method.getReturnType().getSimpleName() + " " + method.getName() + "(" + parameters + ")";
        for (Class<?> thrown : method.getExceptionTypes()) {
            text += " " + thrown.getSimpleName();
        }
        return text;
    }

    private static void file() throws Exception {
        for (String line : Files.readAllLines(Path.of("src/main/java/LiveQueries.java"))) {
            String code = line.strip();
            if (code.startsWith("*") || code.startsWith("/*") || code.startsWith("//")) {
                continue;
            }
            for (String word : RULED_OUT) {
                checks.due(word + " in: " + code, code.contains(word), false);
            }
            if (code.startsWith("import")) {
                checks.due(code, code.equals("import java.util.NoSuchElementException;"), true);
            }
        }
    }

    /** Full of objects and queries it holds what the constructor made, and that is little. */
    private static void room() throws Exception {
        LiveQueries x = new LiveQueries();
        long before = elements(x, new IdentityHashMap<>());
        for (int n = 0; n < 60; n++) {
            x.object(n % 4);
            x.row(n, 8);
        }
        for (int q = 0; q < 6; q++) {
            Checks.ask(x, "1:t[0]=r.a;b;9;i;c");
        }
        checks.due("room when full", elements(x, new IdentityHashMap<>()), before);
        checks.due("room of " + before + " is little", before < 8000, true);
    }

    private static long elements(Object made, Map<Object, Object> seen) throws Exception {
        if (made == null || seen.put(made, made) != null) {
            return 0;
        }
        long count = 0;
        if (made.getClass().isArray()) {
            count += Array.getLength(made);
            for (int i = 0; i < Array.getLength(made) && !made.getClass().getComponentType().isPrimitive(); i++) {
                count += elements(Array.get(made, i), seen);
            }
            return count;
        }
        for (Field field : made.getClass().getDeclaredFields()) {
            if (Modifier.isStatic(field.getModifiers())) {
                continue;
            }
            count++;
            if (!field.getType().isPrimitive()) {
                field.setAccessible(true);
                count += elements(field.get(made), seen);
            }
        }
        return count;
    }
}
