import java.io.IOException;
import java.lang.reflect.Constructor;
import java.lang.reflect.Field;
import java.lang.reflect.InvocationTargetException;
import java.lang.reflect.Method;
import java.lang.reflect.Modifier;
import java.nio.file.Files;
import java.nio.file.Path;
import java.util.Arrays;
import java.util.Comparator;
import java.util.List;
import java.util.Random;
import java.util.Set;
import java.util.TreeSet;
import java.util.regex.Pattern;

/** The document's face, and what can be told of ../shared/LANGUAGE.md from the class and its source. */
public final class RulesTest {
    private static final String[] FACE = {
        "int write(int,long)", "int wipe()", "int fault()", "int town()", "int about(int)", "int person(int,int)",
        "int canal(int,int)", "int glide(int,int,int)", "int push(int,int)", "int undo()", "int way(int,int,int,int)",
        "int alone(int,int,int)", "int soonest()", "int soonestWith(int)", "int worth(int)", "int byLaw()",
        "int leftAlone()", "int asking(int)", "int see(int,int,boolean)", "int unsee()", "int fits()", "int may(int)",
        "long waits(int,int,int,int,boolean)", "int howLong(int,int,int)", "long seed(long)", "int winter(int)",
        "int keep(int)", "int again(int)",
    };
    private static final Path SOURCE = Path.of("src/main/java/OneSkate.java");

    private static final Due due = new Due("RulesTest");

    public static void main(String[] args) throws IOException {
        face();
        constants();
        members();
        source(Files.readString(SOURCE));
        methodLengths(Files.readAllLines(SOURCE));
        anyArguments();
        due.close();
    }

    private static String signature(Method method) {
        StringBuilder told = new StringBuilder();
        told.append(method.getReturnType().getSimpleName()).append(' ').append(method.getName()).append('(');
        for (int i = 0; i < method.getParameterCount(); i++) {
            told.append(i == 0 ? "" : ",").append(method.getParameterTypes()[i].getSimpleName());
        }
        return told.append(')').toString();
    }

    private static void face() {
        Set<String> found = new TreeSet<>();
        for (Method method : OneSkate.class.getDeclaredMethods()) {
            if (!Modifier.isPrivate(method.getModifiers())) {
                found.add(signature(method));
                due.holds(method + " is public and of an object", Modifier.isPublic(method.getModifiers())
                        && !Modifier.isStatic(method.getModifiers()));
            }
        }
        due.holds("the face is " + found, found.equals(new TreeSet<>(Arrays.asList(FACE))));
        Constructor<?>[] constructors = OneSkate.class.getDeclaredConstructors();
        due.is("constructors", 1, constructors.length);
        due.holds("the constructor", Modifier.isPublic(constructors[0].getModifiers())
                && constructors[0].getParameterCount() == 0);
        due.holds("the class is public and final", Modifier.isPublic(OneSkate.class.getModifiers())
                && Modifier.isFinal(OneSkate.class.getModifiers()));
    }

    private static void constants() {
        due.is("UNKNOWN", -1, OneSkate.UNKNOWN);
        due.is("BAD", -2, OneSkate.BAD);
        due.is("LATE", -3, OneSkate.LATE);
        due.is("FULL", -4, OneSkate.FULL);
        due.is("NONE", -9, OneSkate.NONE);
        int open = 0;
        for (Field field : OneSkate.class.getDeclaredFields()) {
            open += Modifier.isPrivate(field.getModifiers()) ? 0 : 1;
        }
        due.is("fields that are not private", 5, open);
    }

    private static void members() {
        Set<String> names = new TreeSet<>();
        for (String signature : FACE) {
            names.add(signature.replaceAll(".* |\\(.*", ""));
        }
        Class<?>[] inside = OneSkate.class.getDeclaredClasses();
        due.holds("twelve classes at most", inside.length + 1 <= 12);
        for (Class<?> each : inside) {
            due.holds(each + " is static and not open", Modifier.isStatic(each.getModifiers())
                    && !Modifier.isPublic(each.getModifiers()) && !Modifier.isProtected(each.getModifiers()));
            for (Method method : each.getDeclaredMethods()) {
                due.holds(method + " has a name of its own", !names.contains(method.getName()));
                due.holds(method + " takes seven at most", method.getParameterCount() <= 7);
            }
            statics(each);
        }
        statics(OneSkate.class);
    }

    private static void statics(Class<?> each) {
        int own = 0;
        for (Field field : each.getDeclaredFields()) {
            if (Modifier.isStatic(field.getModifiers())) {
                due.holds(field + " is final", Modifier.isFinal(field.getModifiers()));
            } else {
                own++;
            }
        }
        due.holds(each + " has twenty fields at most", own <= 20);
    }

    private static void source(String text) {
        String code = text.replaceAll("(?s)/\\*.*?\\*/", "").replaceAll("//[^\n]*", "");
        String[] refused = {
            "\\bthrow\\b", "\\bthrows\\b", "\\btry\\b", "\\bcatch\\b", "\\bsynchronized\\b", "\\bassert\\b", "->", "::",
            "\\bimport\\b", "\\bpackage\\b", "\\bSystem\\.", "\\bObject\\b", "\\bwhile\\b", "Exact\\b", "\\bstatic \\{",
        };
        for (String word : refused) {
            due.holds("no " + word + " in the source", !Pattern.compile(word).matcher(code).find());
        }
        due.holds("the source is plain ASCII", text.chars().allMatch(sign -> sign < 128));
    }

    /** From a method's head to the brace that closes it, by how far they stand in. */
    private static void methodLengths(List<String> lines) {
        Pattern head = Pattern.compile("( {4}| {8})[\\w\\[\\] ]+\\([^;]*\\) \\{");
        int found = 0;
        for (int from = 0; from < lines.size(); from++) {
            if (head.matcher(lines.get(from)).matches()) {
                found++;
                String close = lines.get(from).replaceAll("\\S.*", "") + "}";
                int to = from;
                while (to < lines.size() && !lines.get(to).equals(close)) {
                    to++;
                }
                due.holds("sixty lines at most: " + lines.get(from).trim(), to - from < 60);
            }
        }
        due.holds("the methods were found: " + found, found >= FACE.length + 1);
    }

    /** No call throws, whatever its arguments and whatever was called before; the same calls answer the same. */
    private static void anyArguments() {
        Method[] methods = OneSkate.class.getMethods();
        methods = Arrays.stream(methods).filter(method -> method.getDeclaringClass() == OneSkate.class)
                .sorted(Comparator.comparing(RulesTest::signature)).toArray(Method[]::new);
        due.is("methods to call", FACE.length, methods.length);
        for (int run = 0; run < 200; run++) {
            Random random = new Random(run);
            OneSkate one = startOf(run), other = startOf(run);
            for (int call = 0; call < 400; call++) {
                Method method = methods[random.nextInt(methods.length)];
                Object[] arguments = someArguments(method, random);
                String told = method.getName() + Arrays.toString(arguments);
                long answer = answer(method, one, arguments, told);
                due.is(told + " on the other object", answer, answer(method, other, arguments, told));
            }
        }
    }

    private static OneSkate startOf(int run) {
        switch (run % 4) {
            case 0: return States.rich();
            case 1: return States.full();
            case 2: return Due.townOf(States.SIX);
            default: return States.fresh();
        }
    }

    private static long answer(Method method, OneSkate skate, Object[] arguments, String told) {
        try {
            return ((Number) method.invoke(skate, arguments)).longValue();
        } catch (InvocationTargetException thrown) {
            due.holds(told + " threw " + thrown.getCause(), false);
        } catch (IllegalAccessException closed) {
            due.holds(told + " is not to be called", false);
        }
        return 0;
    }

    private static Object[] someArguments(Method method, Random random) {
        int[] odd = {Integer.MIN_VALUE, Integer.MAX_VALUE, -1, 6, 7, 8, 9, 10, 11, 12, 31, 32, 60, 61, 64, 80, 99, 100};
        Object[] arguments = new Object[method.getParameterCount()];
        for (int i = 0; i < arguments.length; i++) {
            Class<?> type = method.getParameterTypes()[i];
            if (type == boolean.class) {
                arguments[i] = random.nextBoolean();
            } else if (type == long.class) {
                long sign = "NCPlrs012345".charAt(random.nextInt(12));
                arguments[i] = random.nextInt(4) == 0 ? random.nextLong() : sign;
            } else {
                arguments[i] = random.nextInt(6) == 0 ? odd[random.nextInt(odd.length)] : random.nextInt(6);
            }
        }
        return arguments;
    }
}
