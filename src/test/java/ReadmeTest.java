import java.io.ByteArrayOutputStream;
import java.io.IOException;
import java.lang.reflect.Method;
import java.net.URL;
import java.net.URLClassLoader;
import java.nio.file.Files;
import java.nio.file.Path;
import java.util.ArrayList;
import java.util.Comparator;
import java.util.List;
import java.util.Set;
import java.util.TreeSet;
import java.util.regex.Matcher;
import java.util.regex.Pattern;
import java.util.stream.Stream;
import javax.tools.JavaCompiler;
import javax.tools.ToolProvider;

/** What README.md says of using the class: it compiles by the line given there, and answers as it says. */
public final class ReadmeTest {
    private static final Path README = Path.of("README.md");
    private static final Path TESTS = Path.of("src/test/java");
    private static final Pattern ANSWERED = Pattern.compile("skate\\.(\\w+)(\\(.*\\)); +// (-?\\d+|[A-Z]+): \\S.*");

    private static final Due due = new Due("ReadmeTest");
    /** The calls whose answers README.md tells, in their order, and those answers as they stand there. */
    private static final List<String> calls = new ArrayList<>();
    private static final List<String> wants = new ArrayList<>();
    private static final Set<String> called = new TreeSet<>();

    public static void main(String[] args) throws IOException, ReflectiveOperationException {
        List<String> lines = Files.readAllLines(README);
        String plain = String.join("\n", pieces(lines, "java"));
        String asking = askingAll(pieces(lines, "java"));
        answersAreDue(plain, asking, compileLine(lines));
        everyCallIsThere();
        filesAreThere(String.join("\n", lines));
        due.close();
    }

    /** The lines between the fences of this language. */
    private static List<String> pieces(List<String> lines, String language) {
        List<String> found = new ArrayList<>();
        boolean isInside = false;
        for (String line : lines) {
            if (line.startsWith("```")) {
                isInside = line.equals("```" + language);
            } else if (isInside) {
                found.add(line);
            }
        }
        due.holds("there are pieces of " + language, !found.isEmpty());
        return found;
    }

    /** The same pieces with each answer put behind the others; the run of calls stays as it is. */
    private static String askingAll(List<String> pieces) {
        StringBuilder code = new StringBuilder();
        for (String line : pieces) {
            Matcher answered = ANSWERED.matcher(line);
            if (answered.matches()) {
                called.add(answered.group(1));
                calls.add(answered.group(1) + answered.group(2));
                wants.add(answered.group(3));
                code.append("answers[").append(calls.size() - 1).append("] = skate.");
                code.append(answered.group(1)).append(answered.group(2)).append(";\n");
            } else {
                due.holds("an answer and why: " + line, !line.startsWith("skate."));
                code.append(line).append('\n');
            }
        }
        return code.toString();
    }

    private static List<String> compileLine(List<String> lines) {
        for (String line : pieces(lines, "sh")) {
            if (line.startsWith("javac ") && line.endsWith(" YourOwn.java")) {
                return List.of(line.substring("javac ".length()).split(" "));
            }
        }
        due.holds("README.md says how to compile YourOwn.java", false);
        return List.of();
    }

    private static void answersAreDue(String plain, String asking, List<String> compileLine)
            throws IOException, ReflectiveOperationException {
        Path room = Files.createTempDirectory("readme");
        try {
            Path own = room.resolve("YourOwn.java");
            Files.writeString(own, "public final class YourOwn {\n"
                    + "public static void asItStands() {\n" + plain + "\n}\n"
                    + "public static void ask(long[] answers) {\n" + asking + "}\n}\n");
            if (compiles(compileLine, room, own)) {
                compare(room);
            }
        } finally {
            remove(room);
        }
    }

    private static boolean compiles(List<String> compileLine, Path room, Path own) throws IOException {
        List<String> arguments = new ArrayList<>();
        for (String argument : compileLine) {
            boolean isRoom = argument.equals("out");
            arguments.add(isRoom ? room.toString() : argument.equals("YourOwn.java") ? own.toString() : argument);
        }
        JavaCompiler compiler = ToolProvider.getSystemJavaCompiler();
        ByteArrayOutputStream told = new ByteArrayOutputStream();
        boolean does = compiler != null && compiler.run(null, told, told, arguments.toArray(new String[0])) == 0;
        due.holds("README.md's pieces compile: " + told, does);
        return does;
    }

    private static void compare(Path room) throws IOException, ReflectiveOperationException {
        long[] answers = new long[calls.size()];
        // Only what README.md's own line has compiled is looked for.
        URL[] places = {room.toUri().toURL()};
        try (URLClassLoader loader = new URLClassLoader(places, ClassLoader.getPlatformClassLoader())) {
            Class<?> own = loader.loadClass("YourOwn");
            own.getMethod("asItStands").invoke(null);
            own.getMethod("ask", long[].class).invoke(null, (Object) answers);
        }
        for (int call = 0; call < answers.length; call++) {
            due.is("README.md: " + calls.get(call), valueOf(wants.get(call)), answers[call]);
        }
    }

    private static long valueOf(String want) throws ReflectiveOperationException {
        boolean isNumber = !Character.isUpperCase(want.charAt(0));
        return isNumber ? Long.parseLong(want) : OneSkate.class.getField(want).getLong(null);
    }

    private static void everyCallIsThere() {
        for (Method method : OneSkate.class.getMethods()) {
            if (method.getDeclaringClass() == OneSkate.class) {
                due.holds("README.md shows " + method.getName(), called.contains(method.getName()));
            }
        }
        for (String name : List.of("UNKNOWN", "BAD", "LATE", "FULL", "NONE")) {
            due.holds("README.md shows " + name, wants.contains(name));
        }
    }

    private static void filesAreThere(String text) throws IOException {
        Matcher named = Pattern.compile("`((?:src|\\.ci|\\.\\./shared)/[^`]*)`").matcher(text);
        while (named.find()) {
            due.holds(named.group(1) + " is there", Files.exists(Path.of(named.group(1))));
        }
        try (Stream<Path> files = Files.list(TESTS)) {
            files.forEach(file -> due.holds("README.md names " + file,
                    text.contains("`" + file.toString().replace('\\', '/') + "`")));
        }
    }

    private static void remove(Path room) throws IOException {
        List<Path> all = new ArrayList<>();
        try (Stream<Path> files = Files.walk(room)) {
            files.sorted(Comparator.reverseOrder()).forEach(all::add);
        }
        for (Path each : all) {
            Files.delete(each);
        }
    }
}
