import java.io.IOException;
import java.lang.reflect.Constructor;
import java.lang.reflect.Field;
import java.lang.reflect.Method;
import java.lang.reflect.Modifier;
import java.nio.file.Files;
import java.nio.file.Path;
import java.util.Arrays;
import java.util.Set;
import java.util.TreeSet;
import java.util.regex.Pattern;

/** The document's face, and what can be told of ../shared/LANGUAGE.md from the class and its source. */
public final class RulesTest {
    private static final String[] FACE = {
        "int write(int,long)", "int wipe()", "int fault()", "int town()", "int about(int)", "int person(int,int)",
        "int canal(int,int)", "int glide(int,int,int)", "int push(int,int)", "int undo()", "int way(int,int,int,int)",
        "int alone(int,int,int)", "int soonest()", "int soonestWith(int)", "int worth(int)", "int byLaw()",
        "int leftAlone()", "int asking(int)", "int see(int,int,boolean)", "int unsee()", "int fits()", "int may(int)",
        "long waits(int,int,int,int,boolean)", "int howLong(int,int,int)", "long seed(long)", "int winter(int)",
        "int keep(int)", "int again(int)",
    };
    private static final Path SOURCE = Path.of("src/main/java/OneSkate.java");

    private static final Due due = new Due("RulesTest");

    public static void main(String[] args) throws IOException {
        face();
        constants();
        members();
        source(Files.readString(SOURCE));
        due.close();
    }

    private static String signature(Method method) {
        StringBuilder told = new StringBuilder();
        told.append(method.getReturnType().getSimpleName()).append(' ').append(method.getName()).append('(');
        for (int i = 0; i < method.getParameterCount(); i++) {
            told.append(i == 0 ? "" : ",").append(method.getParameterTypes()[i].getSimpleName());
        }
        return told.append(')').toString();
    }

    private static void face() {
        Set<String> found = new TreeSet<>();
        for (Method method : OneSkate.class.getDeclaredMethods()) {
            if (!Modifier.isPrivate(method.getModifiers())) {
                found.add(signature(method));
                due.holds(method + " is public and of an object", Modifier.isPublic(method.getModifiers())
                        && !Modifier.isStatic(method.getModifiers()));
            }
        }
        due.holds("the face is " + found, found.equals(new TreeSet<>(Arrays.asList(FACE))));
        Constructor<?>[] constructors = OneSkate.class.getDeclaredConstructors();
        due.is("constructors", 1, constructors.length);
        due.holds("the constructor", Modifier.isPublic(constructors[0].getModifiers())
                && constructors[0].getParameterCount() == 0);
        due.holds("the class is public and final", Modifier.isPublic(OneSkate.class.getModifiers())
                && Modifier.isFinal(OneSkate.class.getModifiers()));
    }

    private static void constants() {
        due.is("UNKNOWN", -1, OneSkate.UNKNOWN);
        due.is("BAD", -2, OneSkate.BAD);
        due.is("LATE", -3, OneSkate.LATE);
        due.is("FULL", -4, OneSkate.FULL);
        due.is("NONE", -9, OneSkate.NONE);
        int open = 0;
        for (Field field : OneSkate.class.getDeclaredFields()) {
            open += Modifier.isPrivate(field.getModifiers()) ? 0 : 1;
        }
        due.is("fields that are not private", 5, open);
    }

    private static void members() {
        Set<String> names = new TreeSet<>();
        for (String signature : FACE) {
            names.add(signature.replaceAll(".* |\\(.*", ""));
        }
        Class<?>[] inside = OneSkate.class.getDeclaredClasses();
        due.holds("twelve classes at most", inside.length + 1 <= 12);
        for (Class<?> each : inside) {
            due.holds(each + " is static and not open", Modifier.isStatic(each.getModifiers())
                    && !Modifier.isPublic(each.getModifiers()) && !Modifier.isProtected(each.getModifiers()));
            for (Method method : each.getDeclaredMethods()) {
                due.holds(method + " has a name of its own", !names.contains(method.getName()));
                due.holds(method + " takes seven at most", method.getParameterCount() <= 7);
            }
            statics(each);
        }
        statics(OneSkate.class);
    }

    private static void statics(Class<?> each) {
        for (Field field : each.getDeclaredFields()) {
            if (Modifier.isStatic(field.getModifiers())) {
                due.holds(field + " is final", Modifier.isFinal(field.getModifiers()));
            }
        }
    }

    private static void source(String text) {
        String code = text.replaceAll("(?s)/\\*.*?\\*/", "").replaceAll("//[^\n]*", "");
        String[] refused = {
            "\\bthrow\\b", "\\bthrows\\b", "\\btry\\b", "\\bcatch\\b", "\\bsynchronized\\b", "\\bassert\\b", "->", "::",
            "\\bimport\\b", "\\bpackage\\b", "\\bSystem\\.", "\\bObject\\b", "\\bwhile\\b", "Exact\\b", "\\bstatic \\{",
        };
        for (String word : refused) {
            due.holds("no " + word + " in the source", !Pattern.compile(word).matcher(code).find());
        }
        due.holds("the source is plain ASCII", text.chars().allMatch(sign -> sign < 128));
    }
}
