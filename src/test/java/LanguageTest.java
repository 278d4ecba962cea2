import java.io.IOException;
import java.lang.reflect.Constructor;
import java.lang.reflect.Field;
import java.lang.reflect.Method;
import java.lang.reflect.Modifier;
import java.nio.charset.StandardCharsets;
import java.nio.file.Files;
import java.nio.file.Path;
import java.util.Arrays;
import java.util.Set;
import java.util.TreeSet;
import java.util.regex.Matcher;
import java.util.regex.Pattern;

/** What LANGUAGE.md asks of the source, as far as a look at its text and its face can tell. */
public final class LanguageTest {
    private static final Set<String> FACE = new TreeSet<>(Arrays.asList("feed", "town", "fault", "count", "price",
        "meeting", "promise", "say", "unsay", "days", "keep", "kept", "silence", "stands", "pairs", "tale", "lacks",
        "image", "restore"));

    public static void main(String[] args) throws IOException {
        face();
        nested();
        text(Files.readString(Path.of("src/main/java/DuskTown.java"), StandardCharsets.ISO_8859_1));
        Check.end("LanguageTest");
    }

    private static void face() {
        Set<String> names = new TreeSet<>();
        for (Method method : DuskTown.class.getDeclaredMethods()) {
            boolean isPublic = Modifier.isPublic(method.getModifiers());
            Check.same("method " + method + " is public or private", isPublic || Modifier.isPrivate(method.getModifiers()),
                true);
            Check.same("method " + method + " is of the face", FACE.contains(method.getName()), isPublic);
            names.add(method.getName());
        }
        Check.same("all of the face is there", names.containsAll(FACE), true);
        for (Field field : DuskTown.class.getDeclaredFields()) {
            int modifiers = field.getModifiers();
            boolean ofFace = field.getName().equals("NONE");
            Check.same("field " + field, ofFace ? Modifier.isPublic(modifiers) : Modifier.isPrivate(modifiers), true);
            Check.same("static field " + field, !Modifier.isStatic(modifiers) || Modifier.isFinal(modifiers), true);
        }
        Constructor<?>[] made = DuskTown.class.getDeclaredConstructors();
        Check.same("one constructor", made.length, 1);
        Check.same("final", Modifier.isFinal(DuskTown.class.getModifiers()), true);
    }

    private static void nested() {
        Class<?>[] inside = DuskTown.class.getDeclaredClasses();
        Check.same("at most twelve classes", inside.length <= 11, true);
        for (Class<?> one : inside) {
            Check.same(one + " is static", Modifier.isStatic(one.getModifiers()), true);
            int fields = 0;
            for (Field field : one.getDeclaredFields()) {
                boolean isStatic = Modifier.isStatic(field.getModifiers());
                Check.same("static field " + field, !isStatic || Modifier.isFinal(field.getModifiers()), true);
                fields += isStatic ? 0 : 1;
            }
            Check.same(one + " has at most twenty fields", fields <= 20, true);
            for (Method method : one.getDeclaredMethods()) {
                Check.same(method + " bears no name of the face", FACE.contains(method.getName()), false);
                Check.same(method + " takes at most seven", method.getParameterCount() <= 7, true);
            }
        }
    }

    private static void text(String source) {
        String[] banned = {"->", "::", "Exact", "synchronized", "assert ", "finally", "catch", "hashCode", "toString()",
            "System.out", "Math.random", "nanoTime", "package ", "native", "volatile", "transient", "import java.util.*"};
        for (String word : banned) {
            Check.same("'" + word + "' in the source", source.contains(word), false);
        }
        for (int i = 0; i < source.length(); i++) {
            if (source.charAt(i) > 126) {
                Check.same("sign at " + i, source.charAt(i), ' ');
            }
        }
        Matcher imports = Pattern.compile("import ([^;]*);").matcher(source);
        while (imports.find()) {
            String name = imports.group(1);
            Check.same("import " + name, name.equals("java.util.Arrays") || name.equals("java.util.NoSuchElementException"),
                true);
        }
        methodLengths(source.split("\n"));
    }

    private static void methodLengths(String[] lines) {
        int start = -1;
        for (int i = 0; i < lines.length; i++) {
            if (lines[i].matches("( {4}| {8})[A-Za-z].*\\) (throws .*)?\\{")) {
                start = i;
            } else if (start >= 0 && lines[i].matches("( {4}| {8})\\}")) {
                Check.same("method at line " + (start + 1) + " is short", i - start <= 60, true);
                start = -1;
            }
        }
    }
}
