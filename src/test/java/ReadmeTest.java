import java.io.IOException;
import java.lang.reflect.Method;
import java.lang.reflect.Modifier;
import java.nio.file.Files;
import java.nio.file.Path;
import java.util.TreeSet;
import java.util.regex.Matcher;
import java.util.regex.Pattern;

/** README.md: its run answers as it says, and its table has each call of the public face, as that is declared. */
public final class ReadmeTest extends Due {
    private static final Pattern TEXT = Pattern.compile("String text = \"([^\"]*)\";");
    private static final Pattern CALL = Pattern.compile("(?m)^ {4}x\\.(\\w+)\\(([-\\d, ]*)\\); +// (-?\\d+)");
    private static final Pattern ROW = Pattern.compile("(?m)^\\| `(\\w+)\\(([^)]*)\\)` \\|");

    private static Method method(String name) {
        for (Method m : SoapPole.class.getDeclaredMethods()) {
            if (Modifier.isPublic(m.getModifiers()) && m.getName().equals(name)) {
                return m;
            }
        }
        return null;
    }

    private static Object[] numbers(String listed) {
        String[] parts = listed.isEmpty() ? new String[0] : listed.split(", ");
        Object[] all = new Object[parts.length];
        for (int i = 0; i < parts.length; i++) {
            all[i] = Integer.parseInt(parts[i]);
        }
        return all;
    }

    private static TreeSet<String> face() {
        TreeSet<String> names = new TreeSet<>();
        for (Method m : SoapPole.class.getDeclaredMethods()) {
            if (Modifier.isPublic(m.getModifiers())) {
                names.add(m.getName());
            }
        }
        return names;
    }

    private static void run(String page) throws ReflectiveOperationException {
        says("README.md, the run");
        Matcher text = TEXT.matcher(page);
        if (!text.find()) {
            due("texts in README.md", 0, 1);
            return;
        }
        SoapPole x = new SoapPole();
        feedAll(x, text.group(1));
        TreeSet<String> missing = face();
        missing.remove("feed");
        for (Matcher call = CALL.matcher(page); call.find();) {
            String name = call.group(1);
            Method m = method(name);
            if (m == null) {
                due("methods of the name " + name, 0, 1);
                continue;
            }
            int got = (int) m.invoke(x, numbers(call.group(2)));
            due(name + "(" + call.group(2) + ")", got, Integer.parseInt(call.group(3)));
            missing.remove(name);
        }
        due("calls that the run has not: " + missing, missing.size(), 0);
    }

    private static String types(Method m) {
        StringBuilder s = new StringBuilder();
        for (Class<?> p : m.getParameterTypes()) {
            s.append(p.getName()).append(' ');
        }
        return s.toString();
    }

    private static String typesTold(String parameters) {
        StringBuilder s = new StringBuilder();
        for (String p : parameters.isEmpty() ? new String[0] : parameters.split(", ")) {
            s.append(p.split(" ")[0]).append(' ');
        }
        return s.toString();
    }

    private static void table(String page) {
        says("README.md, the table");
        TreeSet<String> missing = face();
        missing.add("SoapPole");
        for (Matcher row = ROW.matcher(page); row.find();) {
            String name = row.group(1);
            due("rows of " + name + " that are one too many", missing.remove(name) ? 0 : 1, 0);
            Method m = method(name);
            if (m != null) {
                due(name + " as declared", types(m).equals(typesTold(row.group(2))) ? 1 : 0, 1);
            }
        }
        due("calls that the table has not: " + missing, missing.size(), 0);
    }

    public static void main(String[] args) throws IOException, ReflectiveOperationException {
        String page = Files.readString(Path.of("README.md"));
        run(page);
        table(page);
        end();
    }
}
