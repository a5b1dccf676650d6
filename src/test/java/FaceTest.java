import java.lang.reflect.Constructor;
import java.lang.reflect.Field;
import java.lang.reflect.Method;
import java.lang.reflect.Modifier;
import java.util.Arrays;
import java.util.List;
import java.util.Set;
import java.util.TreeSet;

/** The class shows the document's face and nothing else (LANGUAGE.md, rules 1, 5 and 11). */
public final class FaceTest {
    private static final List<String> METHODS = List.of(
            "int field(int, int) IllegalArgumentException IllegalStateException",
            "boolean seal()",
            "void clear()",
            "boolean put(int, long, int)",
            "boolean text(int, int)",
            "boolean absent(int)",
            "long get(int, int)",
            "int encode() IllegalStateException",
            "boolean load(int, long)",
            "void clearKey()",
            "int key(int)",
            "boolean decode() IllegalStateException IllegalArgumentException",
            "int keep() IllegalStateException",
            "boolean take(int)",
            "int kept()",
            "int compare(int, int)",
            "int compareKeys(int, int)",
            "int rank(int)",
            "int shared(int)",
            "boolean bounds(int, int)",
            "boolean between(int, int, int, int)",
            "int bound(int, int)",
            "boolean within(int)");

    private static int wrong = 0;

    private static void check(boolean holds, String what) {
        if (!holds) {
            wrong++;
            System.out.println("face: " + what);
        }
    }

    public static void main(String[] args) {
        int modifiers = KeyCodec.class.getModifiers();
        check(Modifier.isPublic(modifiers) && Modifier.isFinal(modifiers), "the class is public and final");
        check(KeyCodec.class.getPackageName().isEmpty(), "the class has no package");
        checkConstructors();
        checkMethods();
        checkFields(KeyCodec.class);
        checkNested();
        System.out.println(wrong == 0 ? "the face is the document's" : wrong + " things are wrong with the face");
        if (wrong != 0) {
            System.exit(1);
        }
    }

    private static void checkConstructors() {
        Constructor<?>[] all = KeyCodec.class.getDeclaredConstructors();
        check(all.length == 1 && all[0].getParameterCount() == 0 && Modifier.isPublic(all[0].getModifiers()),
                "one public constructor without parameters");
    }

    private static String written(Method method) {
        StringBuilder text = new StringBuilder();
        text.append(method.getReturnType().getName()).append(' ').append(method.getName()).append('(');
        Class<?>[] types = method.getParameterTypes();
        for (int i = 0; i < types.length; i++) {
            text.append(i == 0 ? "" : ", ").append(types[i].getName());
        }
        text.append(')');
        for (Class<?> type : method.getExceptionTypes()) {
            text.append(' ').append(type.getSimpleName());
        }
        return text.toString();
    }

    private static void checkMethods() {
        Set<String> face = new TreeSet<>();
        Set<String> names = new TreeSet<>();
        for (Method method : KeyCodec.class.getDeclaredMethods()) {
            if (Modifier.isPrivate(method.getModifiers())) {
                continue;
            }
            check(Modifier.isPublic(method.getModifiers()) && !Modifier.isStatic(method.getModifiers()),
                    "neither public nor private: " + method);
            face.add(written(method));
            names.add(method.getName());
        }
        check(face.equals(new TreeSet<>(METHODS)), "the methods are " + face);
        for (Method method : KeyCodec.class.getDeclaredMethods()) {
            check(!Modifier.isPrivate(method.getModifiers()) || !names.contains(method.getName()),
                    "a private method bears the name of a public one: " + method);
        }
    }

    private static void checkFields(Class<?> owner) {
        int ownFields = 0;
        for (Field field : owner.getDeclaredFields()) {
            int modifiers = field.getModifiers();
            if (owner == KeyCodec.class) {
                check(Modifier.isPrivate(modifiers) || isNone(field), "not private: " + field);
            }
            if (Modifier.isStatic(modifiers)) {
                check(Modifier.isFinal(modifiers), "static and not final: " + field);
            } else {
                ownFields++;
            }
        }
        check(ownFields <= 20, owner + " has " + ownFields + " fields");
    }

    private static boolean isNone(Field field) {
        int wanted = Modifier.PUBLIC | Modifier.STATIC | Modifier.FINAL;
        return field.getName().equals("NONE") && field.getType() == int.class && field.getModifiers() == wanted;
    }

    private static void checkNested() {
        Class<?>[] nested = KeyCodec.class.getDeclaredClasses();
        check(nested.length <= 11, "at most twelve classes: " + Arrays.toString(nested));
        for (Class<?> one : nested) {
            int modifiers = one.getModifiers();
            check(Modifier.isStatic(modifiers) && !Modifier.isPublic(modifiers) && !Modifier.isProtected(modifiers),
                    "no private or package-visible static class: " + one);
            checkFields(one);
        }
    }
}
