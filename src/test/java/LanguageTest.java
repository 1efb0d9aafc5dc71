import java.io.IOException;
import java.lang.reflect.Constructor;
import java.lang.reflect.Field;
import java.lang.reflect.Method;
import java.lang.reflect.Modifier;
import java.nio.charset.StandardCharsets;
import java.nio.file.Files;
import java.nio.file.Path;
import java.util.Set;
import java.util.TreeSet;
import java.util.regex.Matcher;
import java.util.regex.Pattern;

/** The face, and what of the language's rules can be seen by a look at the text. */
public final class LanguageTest {
    public static void main(String[] args) throws IOException {
        face();
        fields();
        text(Files.readString(Path.of("src/main/java/ThunderCartel.java"), StandardCharsets.UTF_8));
        Check.end();
    }

    private static void face() {
        Class<?> type = ThunderCartel.class;
        Check.due("public and final", Modifier.PUBLIC | Modifier.FINAL, type.getModifiers());
        Check.due("constructors", 1, type.getDeclaredConstructors().length);
        for (Constructor<?> constructor : type.getDeclaredConstructors()) {
            Check.due("the constructor is public", Modifier.PUBLIC, constructor.getModifiers());
        }
        Set<String> names = new TreeSet<>();
        Set<String> hidden = new TreeSet<>();
        for (Method method : type.getDeclaredMethods()) {
            if (Modifier.isPublic(method.getModifiers())) {
                Check.due("one method is called " + method.getName(), true, names.add(method.getName()));
            } else {
                Check.due(method.getName() + " is private", true, Modifier.isPrivate(method.getModifiers()));
                hidden.add(method.getName());
            }
        }
        for (Class<?> inner : type.getDeclaredClasses()) {
            Check.due(inner + " is not public", false, Modifier.isPublic(inner.getModifiers()));
            for (Method method : inner.getDeclaredMethods()) {
                if (Modifier.isPrivate(method.getModifiers())) {
                    hidden.add(method.getName());
                }
            }
        }
        hidden.retainAll(names);
        Check.due("private methods with the name of a public one", "[]", hidden.toString());
        Check.due("classes at most twelve", true, type.getDeclaredClasses().length < 12);
    }

    private static void fields() {
        for (Field field : ThunderCartel.class.getDeclaredFields()) {
            Check.due(field + " is private", true, Modifier.isPrivate(field.getModifiers()));
        }
        for (Class<?> inner : ThunderCartel.class.getDeclaredClasses()) {
            for (Field field : inner.getDeclaredFields()) {
                boolean isConstant = !Modifier.isStatic(field.getModifiers())
                    || Modifier.isFinal(field.getModifiers());
                Check.due(field + " is no changing static", true, isConstant);
            }
        }
    }

    private static void text(String source) {
        String code = source.replaceAll("(?s)/\\*.*?\\*/", "").replaceAll("//[^\n]*", "");
        String[] words = {"catch", "try", "finally", "synchronized", "assert", "package", "protected", "instanceof",
            "while", "Exact", "equals", "hashCode", "toString", "System\\.(?!arraycopy)", "getClass", "static \\{"};
        for (String word : words) {
            Check.due("the code has no " + word, false, Pattern.compile("\\b" + word).matcher(code).find());
        }
        Check.due("the code has no lambda or method reference", false, code.contains("->") || code.contains("::"));
        Matcher imports = Pattern.compile("import ([^;]*);").matcher(code);
        while (imports.find()) {
            Check.due("import", "java.util.NoSuchElementException", imports.group(1));
        }
        Check.due("signs 1 to 127", true, source.chars().allMatch(sign -> sign >= 1 && sign <= 127));
        lengths(source);
    }

    /** Methods stand four or eight columns in, so a method ends at a brace in the column of its head. */
    private static void lengths(String source) {
        Matcher method = Pattern.compile("(?ms)^( {4}| {8})[a-zA-Z][^;={}]*\\)[^;={}]*\\{$.*?^\\1\\}$").matcher(source);
        int methods = 0;
        while (method.find()) {
            methods++;
            String head = method.group().substring(0, method.group().indexOf('{'));
            Check.due("lines of " + head, true, method.group().lines().count() <= 60);
        }
        Check.due("methods were found", true, methods > 53);
    }
}
