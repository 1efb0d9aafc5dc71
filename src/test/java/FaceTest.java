import java.io.IOException;
import java.lang.reflect.Constructor;
import java.lang.reflect.Executable;
import java.lang.reflect.Method;
import java.lang.reflect.Modifier;
import java.nio.charset.StandardCharsets;
import java.nio.file.Files;
import java.nio.file.Path;
import java.util.ArrayList;
import java.util.List;
import java.util.TreeSet;
import java.util.regex.Matcher;
import java.util.regex.Pattern;

/** The class has the face that the document prints, and each promise repeats its line of it. */
public final class FaceTest {
    private static final Pattern PROMISE = Pattern.compile("(?m)^## Promise (\\d+): (.*)\n\n`([^`]*)`");

    private static final Pattern HEAD = Pattern.compile("Ahead of the calls (.*) the interface says: (.*)\\.");

    private FaceTest() {
    }

    public static void main(String[] args) throws IOException {
        String document = Files.readString(Path.of("../shared/DOC.md"), StandardCharsets.UTF_8);
        List<String> face = printedFace(document);
        Check.due("the constructor and the methods", 54, face.size());
        Check.due("the class", new TreeSet<>(face), new TreeSet<>(classFace()));
        Matcher promise = PROMISE.matcher(document);
        int promises = 0;
        while (promise.find()) {
            promises++;
            Check.due("the number of a promise", "" + promises, promise.group(1));
            Check.due("promise " + promises, face.get(promises - 1), promise.group(3));
        }
        Check.due("promises", 54, promises);
        String source = Files.readString(Path.of("src/main/java/ThunderCartel.java"), StandardCharsets.UTF_8);
        order(source, face);
        heads(source, document);
        Check.end();
    }

    /** The lines of the document's first block of code, without what all of them have. */
    private static List<String> printedFace(String document) {
        List<String> face = new ArrayList<>();
        String block = document.substring(document.indexOf("```java"));
        for (String line : block.substring(0, block.indexOf("\n```")).split("\n")) {
            if (line.startsWith("    public ")) {
                face.add(line.replace("    public ", "").replace(";", ""));
            }
        }
        return face;
    }

    /** The public members of the class, written as the document writes them. */
    private static List<String> classFace() {
        List<String> face = new ArrayList<>();
        for (Constructor<?> constructor : ThunderCartel.class.getDeclaredConstructors()) {
            face.add(line(constructor, "ThunderCartel"));
        }
        for (Method method : ThunderCartel.class.getDeclaredMethods()) {
            if (!Modifier.isPrivate(method.getModifiers())) {
                Check.due(method.getName(), Modifier.PUBLIC, method.getModifiers());
                face.add(line(method, method.getReturnType() + " " + method.getName()));
            }
        }
        return face;
    }

    private static String line(Executable executable, String head) {
        StringBuilder line = new StringBuilder(head).append('(');
        for (int i = 0; i < executable.getParameterCount(); i++) {
            line.append(i == 0 ? "" : ", ").append(executable.getParameters()[i].getType());
            line.append(' ').append(executable.getParameters()[i].getName());
        }
        line.append(')');
        Class<?>[] thrown = executable.getExceptionTypes();
        for (int i = 0; i < thrown.length; i++) {
            line.append(i == 0 ? " throws " : ", ").append(thrown[i].getSimpleName());
        }
        return line.toString();
    }

    /** The program has its methods in the order of the document, so that a reader finds them there. */
    private static void order(String source, List<String> face) {
        int place = 0;
        for (String line : face) {
            String head = "    public " + line.substring(0, line.indexOf('(') + 1);
            int next = source.indexOf(head, place);
            Check.due("in the order of the document: " + head.strip(), true, next > 0);
            place = Math.max(place, next);
        }
    }

    /** Ahead of a row of calls the program says what the document says there. */
    private static void heads(String source, String document) {
        Matcher head = HEAD.matcher(document);
        int heads = 0;
        while (head.find()) {
            heads++;
            int place = source.indexOf("    // " + head.group(2) + "\n");
            Check.due("the program says: " + head.group(2), true, place > 0);
            for (String call : head.group(1).split(", ")) {
                String name = call.replace("`", "");
                int next = source.indexOf(" " + name + "(", Math.max(0, place));
                int end = source.indexOf("    // ----", Math.max(0, place + 1));
                Check.due(name + " behind " + head.group(2), true, next > 0 && (end < 0 || next < end));
            }
        }
        Check.due("heads", 8, heads);
    }
}
