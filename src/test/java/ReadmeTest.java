import java.io.ByteArrayOutputStream;
import java.io.IOException;
import java.io.PrintStream;
import java.lang.reflect.Method;
import java.lang.reflect.Modifier;
import java.lang.reflect.Parameter;
import java.nio.charset.StandardCharsets;
import java.nio.file.Files;
import java.nio.file.Path;
import java.util.ArrayList;
import java.util.List;
import java.util.Map;
import java.util.TreeMap;
import java.util.regex.Matcher;
import java.util.regex.Pattern;
import java.util.stream.Stream;

/** README.md tells what is so: its example is the program that prints its output, and its tables have the face. */
public final class ReadmeTest {
    private static final Pattern ROW = Pattern.compile("(?m)^\\| `(\\w+\\([a-z, ]*\\))` \\| (.*) \\|(.*)\\|$");
    private static final Pattern EXCEPTION = Pattern.compile("`(\\w+Exception)`");
    private static final Pattern NUMBERS = Pattern.compile("`UnsupportedOperationException` \\(([0-9, ]+)\\)");

    private ReadmeTest() {
    }

    public static void main(String[] args) throws IOException {
        String readme = Files.readString(Path.of("README.md"), StandardCharsets.UTF_8);
        example(readme);
        tables(readme);
        commands(readme);
        tests(readme);
        Check.end();
    }

    private static String block(String readme, String kind, String from) {
        int start = readme.indexOf("```" + kind + "\n", readme.indexOf(from)) + kind.length() + 4;
        return readme.substring(start, readme.indexOf("```", start));
    }

    private static void example(String readme) throws IOException {
        String program = Files.readString(Path.of("src/test/java/Example.java"), StandardCharsets.UTF_8);
        Check.due("the example", program, block(readme, "java", "## Use"));
        PrintStream out = System.out;
        ByteArrayOutputStream printed = new ByteArrayOutputStream();
        System.setOut(new PrintStream(printed, true, StandardCharsets.UTF_8));
        Example.main(new String[0]);
        System.setOut(out);
        String output = printed.toString(StandardCharsets.UTF_8).replace(System.lineSeparator(), "\n");
        Check.due("its output", block(readme, "text", "It prints:"), output);
    }

    /** Each method stands in a table, with its parameters and its exceptions in their order. */
    private static void tables(String readme) throws IOException {
        Map<String, String> rows = new TreeMap<>();
        Matcher row = ROW.matcher(readme);
        while (row.find()) {
            Check.due(row.group(1) + " stands there once", null, rows.put(row.group(1), row.group(3)));
            Check.due(row.group(1) + " answers something", false, row.group(2).isBlank());
        }
        Map<String, String> denials = denials();
        int methods = 0;
        for (Method method : ThunderCartel.class.getDeclaredMethods()) {
            if (Modifier.isPublic(method.getModifiers())) {
                methods++;
                List<String> names = new ArrayList<>();
                for (Parameter parameter : method.getParameters()) {
                    names.add(parameter.getName());
                }
                String head = method.getName() + "(" + String.join(", ", names) + ")";
                String thrown = rows.get(head);
                Check.due("a row for " + head, true, thrown != null);
                Check.due(head + " throws", exceptions(method), all(EXCEPTION, thrown));
                Check.due(head + " is denied", denials.get(method.getName()), all(NUMBERS, thrown).toString());
            }
        }
        Check.due("a row for each method", methods, rows.size());
    }

    private static List<String> exceptions(Method method) {
        List<String> names = new ArrayList<>();
        for (Class<?> type : method.getExceptionTypes()) {
            names.add(type.getSimpleName());
        }
        return names;
    }

    private static List<String> all(Pattern pattern, String text) {
        List<String> found = new ArrayList<>();
        Matcher matcher = pattern.matcher(text == null ? "" : text);
        while (matcher.find()) {
            found.add(matcher.group(1));
        }
        return found;
    }

    /** The numbers of each method's denials, as the document tells them in its promise. */
    private static Map<String, String> denials() throws IOException {
        String document = Files.readString(Path.of("../shared/DOC.md"), StandardCharsets.UTF_8);
        Map<String, String> denials = new TreeMap<>();
        String name = "";
        for (String line : document.split("\n")) {
            if (line.startsWith("## Promise ")) {
                name = line.substring(line.indexOf(": ") + 2);
                denials.put(name, "[]");
            }
            int denied = line.indexOf(" if denied: ");
            if (denied > 0) {
                String numbers = line.substring(denied + 12).replaceAll(" \\([^)]*\\)", "");
                denials.put(name, "[" + numbers + "]");
            }
        }
        return denials;
    }

    /** Each command of the page, with all of its digits, is executed, and is denied or refused as its method is. */
    private static void commands(String readme) {
        int commands = 0;
        for (String line : block(readme, "text", "no other spaces").split("\n")) {
            for (String cell : line.split("  {3,}(?=[a-z]+ [0-9])")) {
                String command = cell.strip().split(" {2,}")[0];
                commands++;
                ThunderCartel x = Check.members(2);
                Check.feed(x, command);
                Check.due(command, true, !"IllegalArgumentException".equals(Whole.answer(x, ThunderCartel::execute)));
                Check.feed(x, command + "9");
                Check.due(command + "9", "IllegalArgumentException", Whole.answer(x, ThunderCartel::execute));
            }
        }
        Check.due("commands", 11, commands);
    }

    private static void tests(String readme) throws IOException {
        try (Stream<Path> files = Files.list(Path.of("src/test/java"))) {
            for (Path file : (Iterable<Path>) files::iterator) {
                String name = file.getFileName().toString().replace(".java", "");
                if (name.endsWith("Test")) {
                    Check.due("a word on " + name, true, readme.contains("`" + name + "`"));
                }
            }
        }
    }
}
