import java.io.IOException;
import java.lang.reflect.InvocationTargetException;
import java.lang.reflect.Method;
import java.nio.file.Files;
import java.nio.file.Path;
import java.util.Set;
import java.util.TreeSet;
import java.util.regex.Matcher;
import java.util.regex.Pattern;

/** The calls in README.md answer what it says behind them, and show the whole face. */
public final class ReadmeTest {
    private static final Pattern TEXT = Pattern.compile("feedText\\(x, \"(.*)\"\\);");
    private static final Pattern CALL = Pattern.compile("x\\.(\\w+)\\(([^)]*)\\); *// (throws \\w+|-?\\d+|\\w+).*");

    public static void main(String[] args) throws IOException, IllegalAccessException {
        String readme = Files.readString(Path.of("README.md"));
        Set<String> shown = new TreeSet<>();
        shown.add("feed");
        DuskTown x = new DuskTown();
        for (String line : readme.split("\n")) {
            Matcher text = TEXT.matcher(line);
            Matcher call = CALL.matcher(line);
            if (line.equals("DuskTown x = new DuskTown();")) {
                x = new DuskTown();
            } else if (text.matches()) {
                Check.feedText(x, text.group(1));
            } else if (call.matches()) {
                shown.add(call.group(1));
                Check.same("README.md: " + line, answer(x, call.group(1), call.group(2)), dueOf(call));
            } else {
                Check.same("README.md: this line is a call without an answer: " + line, line.startsWith("x."), false);
            }
        }
        wholeFace(shown);
        helperIsOurs(readme);
        Check.end("ReadmeTest");
    }

    private static String dueOf(Matcher call) {
        return call.group(1).equals("image") ? "null" : call.group(3);
    }

    private static String answer(DuskTown x, String name, String list) throws IllegalAccessException {
        String[] told = list.isEmpty() ? new String[0] : list.split(", ");
        Object[] numbers = new Object[told.length];
        for (int i = 0; i < told.length; i++) {
            numbers[i] = told[i].equals("DuskTown.NONE") ? DuskTown.NONE : Integer.parseInt(told[i]);
        }
        for (Method method : DuskTown.class.getMethods()) {
            if (method.getName().equals(name) && method.getParameterCount() == numbers.length) {
                try {
                    return String.valueOf(method.invoke(x, numbers));
                } catch (InvocationTargetException e) {
                    return "throws " + e.getCause().getClass().getSimpleName();
                }
            }
        }
        return "there is no such method";
    }

    private static void wholeFace(Set<String> shown) {
        for (Method method : DuskTown.class.getDeclaredMethods()) {
            boolean isPublic = java.lang.reflect.Modifier.isPublic(method.getModifiers());
            Check.same("README.md shows " + method.getName(), !isPublic || shown.contains(method.getName()), true);
        }
    }

    /** The tests tell their texts by the very lines that README.md shows. */
    private static void helperIsOurs(String readme) throws IOException {
        String ours = Files.readString(Path.of("src/test/java/Check.java")).replace("\n    ", "\n");
        int start = readme.indexOf("static void feedText");
        int end = readme.indexOf("```", start);
        Check.same("README.md has feedText", start >= 0 && end > start, true);
        if (start >= 0 && end > start) {
            Check.same("README.md's feedText is Check's", ours.contains(readme.substring(start, end)), true);
        }
    }
}
