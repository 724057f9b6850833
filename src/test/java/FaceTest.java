import java.io.IOException;
import java.lang.reflect.Constructor;
import java.lang.reflect.Field;
import java.lang.reflect.Method;
import java.lang.reflect.Modifier;
import java.nio.file.Files;
import java.nio.file.Path;
import java.util.Set;
import java.util.TreeSet;

/** The public face of the document, all of it and nothing more; and rules of LANGUAGE.md that can be counted. */
public final class FaceTest {
    private static final Set<String> FACE = Set.of(
        "int segment(int,int)", "boolean brackets(int,int,int,int,int)", "boolean flags(int,int,int)",
        "boolean word(int,int,int)", "boolean define(int,int,int)", "boolean link(int,int,int,int)",
        "boolean start(int,int,int,int)", "int handler(int,int,int)", "int run(int,int)", "int state(int,int)",
        "int pointer(int,int,int)", "int peek(int,int,int)", "int stored(int,int)", "int known(int,int)",
        "int may(int,int,int,int)", "int said(int)", "int sayings()");
    private static final String[] REFUSED = {"throw", "try", "catch", "synchronized", "assert", "::", "static {",
        "Exception", "System.out", "Exact("};

    public static void main(String[] args) throws IOException {
        members();
        classes();
        source();
        Check.finish();
    }

    private static void members() {
        Set<String> found = new TreeSet<>();
        for (Method method : RingWarden.class.getDeclaredMethods()) {
            if (!Modifier.isPrivate(method.getModifiers()) && !method.isSynthetic()) {
                found.add(signature(method));
            }
        }
        Check.due("methods " + found, found.equals(FACE), true);
        for (Field field : RingWarden.class.getDeclaredFields()) {
            boolean shown = !Modifier.isPrivate(field.getModifiers());
            Check.due("field " + field.getName(), shown, field.getName().equals("NONE"));
        }
        Constructor<?>[] constructors = RingWarden.class.getDeclaredConstructors();
        Check.due("constructors", constructors.length, 1);
        Check.due("its parameters", constructors[0].getParameterCount(), 0);
        Check.due("final", Modifier.isFinal(RingWarden.class.getModifiers()), true);
        for (Class<?> inside : RingWarden.class.getDeclaredClasses()) {
            Check.due("static " + inside.getName(), Modifier.isStatic(inside.getModifiers()), true);
        }
    }

    /** LANGUAGE.md, rules 1, 5 and 11. */
    private static void classes() {
        Class<?>[] inside = RingWarden.class.getDeclaredClasses();
        Check.due("classes in the file, at most 12: " + inside.length, inside.length + 1 <= 12, true);
        checkClass(RingWarden.class);
        for (Class<?> one : inside) {
            checkClass(one);
        }
    }

    private static void checkClass(Class<?> one) {
        int fields = 0;
        for (Field field : one.getDeclaredFields()) {
            boolean shared = Modifier.isStatic(field.getModifiers());
            fields += shared ? 0 : 1;
            Check.due("static but not final: " + field, shared && !Modifier.isFinal(field.getModifiers()), false);
        }
        Check.due("fields of " + one.getName() + ", at most 20: " + fields, fields <= 20, true);
        for (Method method : one.getDeclaredMethods()) {
            Check.due("parameters of " + method, method.getParameterCount() <= 7, true);
            boolean hidden = Modifier.isPrivate(method.getModifiers());
            Check.due("private, with a public one's name: " + method, hidden && bearsPublicName(method), false);
        }
    }

    private static boolean bearsPublicName(Method method) {
        for (String signature : FACE) {
            if (signature.contains(" " + method.getName() + "(")) {
                return true;
            }
        }
        return false;
    }

    private static String signature(Method method) {
        StringBuilder text = new StringBuilder(method.getReturnType() + " " + method.getName() + "(");
        for (int i = 0; i < method.getParameterCount(); i++) {
            text.append(i == 0 ? "" : ",").append(method.getParameterTypes()[i]);
        }
        return text.append(")").toString();
    }

    private static void source() throws IOException {
        String text = Files.readString(Path.of("src/main/java/RingWarden.java"));
        String code = text.replaceAll("(?s)/\\*.*?\\*/", "").replaceAll("//[^\n]*", "");
        for (String word : REFUSED) {
            boolean plain = Character.isLetter(word.charAt(0)) && Character.isLetter(word.charAt(word.length() - 1));
            String pattern = "(?s).*" + (plain ? "\\b" + word + "\\b" : java.util.regex.Pattern.quote(word)) + ".*";
            Check.due("'" + word + "' in the source", code.matches(pattern), false);
        }
        for (String line : code.split("\n")) {
            boolean allowed = !line.startsWith("import ") || line.equals("import java.util.Arrays;");
            Check.due("an import that the class needs: " + line, allowed, true);
            boolean arm = line.strip().startsWith("case ") || line.strip().startsWith("default ");
            Check.due("a lambda in the source: " + line.strip(), line.contains("->") && !arm, false);
        }
    }
}
