import java.io.IOException;
import java.lang.reflect.InvocationTargetException;
import java.lang.reflect.Method;
import java.lang.reflect.Modifier;
import java.nio.file.Files;
import java.nio.file.Paths;
import java.util.NoSuchElementException;
import java.util.regex.Matcher;
import java.util.regex.Pattern;

/** What README.md tells: its run answers as it says, and it names every call of the face. */
public final class PackWeeksReadme extends Asking {
    private static final Pattern TOLD = Pattern.compile("tell\\(x, \"([^\"]*)\"\\);");
    private static final Pattern CALLED = Pattern.compile("x\\.(\\w+)\\(([^)]*)\\); +// (-?\\w+).*");

    public static void main(String[] args) throws IOException, ReflectiveOperationException {
        String text = new String(Files.readAllBytes(Paths.get("README.md")), "UTF-8");
        about = "README, its run";
        due("lines of the run", runOf(text), 35);
        about = "README, its calls";
        for (Method m : PackWeeks.class.getDeclaredMethods()) {
            if (Modifier.isPublic(m.getModifiers())) {
                due("names " + m.getName(), text.contains("`" + m.getName() + "`"), true);
            }
        }
        finish();
    }

    private static int runOf(String text) throws ReflectiveOperationException {
        PackWeeks x = new PackWeeks();
        int lines = 0;
        for (String line : text.split("\n")) {
            Matcher told = TOLD.matcher(line);
            Matcher called = CALLED.matcher(line);
            if (told.matches()) {
                feedText(x, told.group(1));
                lines++;
            } else if (called.matches()) {
                due(line, answer(x, called.group(1), called.group(2)), called.group(3));
                lines++;
            }
        }
        return lines;
    }

    private static String answer(PackWeeks x, String name, String list) throws ReflectiveOperationException {
        String[] parts = list.isEmpty() ? new String[0] : list.split(", ");
        Object[] values = new Object[parts.length];
        Class<?>[] types = new Class<?>[parts.length];
        for (int i = 0; i < parts.length; i++) {
            boolean so = parts[i].equals("true") || parts[i].equals("false");
            types[i] = so ? boolean.class : int.class;
            values[i] = so ? (Object) Boolean.valueOf(parts[i]) : (Object) Integer.valueOf(parts[i]);
        }
        try {
            return String.valueOf(PackWeeks.class.getMethod(name, types).invoke(x, values));
        } catch (InvocationTargetException e) {
            return e.getCause() instanceof NoSuchElementException ? "throws" : e.getCause().toString();
        }
    }
}
