import java.lang.reflect.Constructor;
import java.lang.reflect.Field;
import java.lang.reflect.Method;
import java.lang.reflect.Modifier;
import java.util.TreeSet;

/** The class has the document's face, and no other member that is not private. */
public final class FaceTest {
    private static final String[] FACE = {
        "int string(int) IllegalArgumentException IllegalStateException",
        "int tune(int int) IndexOutOfBoundsException IllegalArgumentException",
        "int slacken(int boolean) IndexOutOfBoundsException",
        "int capo(int) IllegalArgumentException",
        "int reach(int) IllegalArgumentException",
        "int fretOf(int int) IndexOutOfBoundsException IllegalArgumentException",
        "int chord(int int int int int) IllegalArgumentException IllegalStateException",
        "int strike(int) IndexOutOfBoundsException",
        "int fix(int int) IndexOutOfBoundsException",
        "int ofChord(int int) IndexOutOfBoundsException IllegalArgumentException",
        "int ofGrip(int int int) IndexOutOfBoundsException IllegalArgumentException",
        "int fret(int int int) IndexOutOfBoundsException",
        "int finger(int int int) IndexOutOfBoundsException",
        "int move(int int int) IndexOutOfBoundsException",
        "int plan(int) IndexOutOfBoundsException",
        "int total()",
        "int hardest()",
        "int many(int) IllegalArgumentException",
        "double meanEffort()",
        "int shapes(int int int) IllegalArgumentException",
        "int shapeEffort(int int int) IllegalArgumentException",
        "int shapeFret(int int int int) IndexOutOfBoundsException IllegalArgumentException",
        "int totalWith(int int) IllegalArgumentException",
        "int bestCapo()",
        "int totalWithout(int) IndexOutOfBoundsException",
        "int totalFixed(int int) IndexOutOfBoundsException",
        "long digest()",
    };

    public static void main(String[] args) {
        Check check = new Check("FaceTest");
        check.same("the class", Modifier.toString(Tablature.class.getModifiers()), "public final");
        check.same("its methods", methods().toString(), new TreeSet<>(java.util.List.of(FACE)).toString());
        check.same("its constructors", constructors(), "public Tablature()");
        check.same("its fields", fields(), "");
        check.same("private methods with a public one's name", namesakes(), "");
        check.end();
    }

    private static String names(Class<?>[] types, String before) {
        StringBuilder text = new StringBuilder();
        for (Class<?> type : types) {
            text.append(text.length() == 0 ? before : " ").append(type.getSimpleName());
        }
        return text.toString();
    }

    private static TreeSet<String> methods() {
        TreeSet<String> found = new TreeSet<>();
        for (Method m : Tablature.class.getDeclaredMethods()) {
            if (!Modifier.isPrivate(m.getModifiers()) && !m.isSynthetic()) {
                String prefix = Modifier.toString(m.getModifiers()).equals("public") ? "" : "not just public: ";
                found.add(prefix + m.getReturnType() + " " + m.getName() + "(" + names(m.getParameterTypes(), "") + ")"
                        + names(m.getExceptionTypes(), " "));
            }
        }
        return found;
    }

    private static String constructors() {
        StringBuilder found = new StringBuilder();
        for (Constructor<?> c : Tablature.class.getDeclaredConstructors()) {
            found.append(c);
        }
        return found.toString();
    }

    private static String fields() {
        StringBuilder found = new StringBuilder();
        for (Field f : Tablature.class.getDeclaredFields()) {
            if (!Modifier.isPrivate(f.getModifiers())) {
                found.append(f).append(' ');
            }
        }
        return found.toString();
    }

    private static String namesakes() {
        TreeSet<String> face = new TreeSet<>();
        for (Method m : Tablature.class.getDeclaredMethods()) {
            if (Modifier.isPublic(m.getModifiers())) {
                face.add(m.getName());
            }
        }
        StringBuilder found = new StringBuilder();
        for (Class<?> c : Tablature.class.getDeclaredClasses()) {
            for (Method m : c.getDeclaredMethods()) {
                found.append(face.contains(m.getName()) ? c.getSimpleName() + "." + m.getName() + " " : "");
            }
        }
        for (Method m : Tablature.class.getDeclaredMethods()) {
            boolean isHidden = Modifier.isPrivate(m.getModifiers());
            found.append(isHidden && face.contains(m.getName()) ? m.getName() + " " : "");
        }
        return found.toString();
    }
}
