import java.io.IOException;
import java.lang.reflect.InvocationTargetException;
import java.lang.reflect.Method;
import java.lang.reflect.Modifier;
import java.nio.file.Files;
import java.nio.file.Path;
import java.util.TreeSet;
import java.util.regex.Matcher;
import java.util.regex.Pattern;

/** The calls of the example in README.md answer what stands behind them there; README.md names each call. */
public final class ReadmeTest {
    private static final Pattern ROW =
            Pattern.compile("t\\.(\\w+)\\((.*)\\); +// (throws \\w+|-?[0-9]+(\\.[0-9]+)?)\\b.*");

    public static void main(String[] args) throws IOException {
        Check check = new Check("ReadmeTest");
        String text = Files.readString(Path.of("README.md"));
        Tablature t = new Tablature();
        int calls = 0;
        for (String row : text.split("\n")) {
            if (row.startsWith("t.")) {
                calls++;
                Matcher parts = ROW.matcher(row);
                boolean isCall = parts.matches();
                check.same(row, isCall ? answer(t, parts.group(1), parts.group(2)) : "?",
                        isCall ? parts.group(3) : "a call with its answer");
            }
        }
        check.same("the example has calls", calls > 0 ? "yes" : "no", "yes");
        check.same("calls that README.md does not name", unnamed(text).toString(), "[]");
        check.end();
    }

    private static Method method(String name) {
        for (Method m : Tablature.class.getMethods()) {
            if (m.getName().equals(name)) {
                return m;
            }
        }
        throw new IllegalStateException("no such call: " + name);
    }

    private static String answer(Tablature t, String name, String list) {
        String[] words = list.isEmpty() ? new String[0] : list.split(", ");
        Object[] arguments = new Object[words.length];
        for (int k = 0; k < words.length; k++) {
            boolean isFlag = words[k].equals("true") || words[k].equals("false");
            arguments[k] = isFlag ? (Object) Boolean.valueOf(words[k]) : (Object) Integer.valueOf(words[k]);
        }
        try {
            return String.valueOf(method(name).invoke(t, arguments));
        } catch (InvocationTargetException e) {
            return "throws " + e.getCause().getClass().getSimpleName();
        } catch (IllegalAccessException e) {
            throw new IllegalStateException(e);
        }
    }

    private static TreeSet<String> unnamed(String text) {
        TreeSet<String> found = new TreeSet<>();
        for (Method m : Tablature.class.getDeclaredMethods()) {
            boolean isPublic = Modifier.isPublic(m.getModifiers());
            if (isPublic && !text.contains("`" + m.getName() + "`")) {
                found.add(m.getName());
            }
        }
        return found;
    }
}
