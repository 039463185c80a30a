import java.io.IOException;
import java.lang.reflect.Constructor;
import java.lang.reflect.Field;
import java.lang.reflect.Method;
import java.lang.reflect.Modifier;
import java.nio.file.Files;
import java.nio.file.Path;
import java.util.ArrayList;
import java.util.HashSet;
import java.util.List;
import java.util.Set;
import java.util.TreeSet;
import java.util.regex.Pattern;

/** The document's public face, and the rules of LANGUAGE.md that a look from outside can tell. */
public final class PlanBoundsFace {
    private static final String INDEX = "IndexOutOfBoundsException";
    private static final String STATE = "IllegalStateException";
    private static final String ARGUMENT = "IllegalArgumentException";
    private static final String[] FACE = {
        "int column(long) " + STATE + " " + ARGUMENT,
        "int row(int,int,long) " + STATE + " " + ARGUMENT,
        "int factor(int,int,int) " + INDEX + " " + STATE + " " + ARGUMENT,
        "int cut(int,int) " + INDEX + " " + STATE + " " + ARGUMENT,
        "boolean right(int,long) " + INDEX + " " + ARGUMENT,
        "int run(int) " + ARGUMENT,
        "long value(int) " + ARGUMENT,
        "long share(int,int) " + INDEX + " " + ARGUMENT,
        "long dual(int,int) " + INDEX + " " + ARGUMENT,
        "long factorOf(int,int) " + INDEX + " " + STATE + " " + ARGUMENT,
        "int check()",
        "int steps()",
        "int count(int)"
    };
    private static final String[] NOT_ALLOWED = {
        "\\btry\\b", "\\bcatch\\b", "\\bfinally\\b", "\\bassert\\b", "\\bsynchronized\\b", "->", "::", "Exact\\(",
        "\\bdouble\\b", "\\bfloat\\b", "static \\{", "\\bpackage\\b", "@", "System\\.(?!arraycopy)", "import (?!java\\.util\\.Arrays;)"
    };
    private static int wrong = 0;

    private static void due(String what, Object got, Object want) {
        if (!got.equals(want)) {
            wrong++;
            System.out.println(what + " is " + got + ", due is " + want);
        }
    }

    private static String told(Method m) {
        List<String> types = new ArrayList<>();
        for (Class<?> type : m.getParameterTypes()) {
            types.add(type.getSimpleName());
        }
        StringBuilder text = new StringBuilder(m.getReturnType().getSimpleName() + " " + m.getName());
        text.append("(").append(String.join(",", types)).append(")");
        for (Class<?> thrown : m.getExceptionTypes()) {
            text.append(" ").append(thrown.getSimpleName());
        }
        return text.toString();
    }

    private static void lookAtFace() {
        due("public final class", Modifier.toString(PlanBounds.class.getModifiers()), "public final");
        Set<String> open = new TreeSet<>();
        for (Method m : PlanBounds.class.getDeclaredMethods()) {
            if (!m.isSynthetic() && !Modifier.isPrivate(m.getModifiers())) {
                due(m.getName() + " is", Modifier.toString(m.getModifiers()), "public");
                open.add(told(m));
            }
        }
        due("the methods", open, new TreeSet<>(List.of(FACE)));
        for (Field f : PlanBounds.class.getDeclaredFields()) {
            boolean named = f.getName().equals("NONE");
            due(f.getName() + " is public", Modifier.isPublic(f.getModifiers()), named);
            due(f.getName() + " is private", Modifier.isPrivate(f.getModifiers()), !named);
        }
        Constructor<?>[] made = PlanBounds.class.getDeclaredConstructors();
        due("constructors", made.length, 1);
        due("the constructor", made[0].toString(), "public PlanBounds(int)");
        due("NONE", PlanBounds.NONE, -1);
    }

    private static void lookAtClass(Class<?> type, Set<String> publicNames) {
        int plain = 0;
        for (Field f : type.getDeclaredFields()) {
            boolean fixed = Modifier.isStatic(f.getModifiers());
            plain += fixed ? 0 : 1;
            due(f + " is final if static", !fixed || Modifier.isFinal(f.getModifiers()), true);
        }
        due(type + " has at most 20 fields", plain <= 20, true);
        for (Method m : type.getDeclaredMethods()) {
            due(m + " takes at most 7", m.getParameterCount() <= 7, true);
            due(m + " bears a name of the face", !Modifier.isPublic(m.getModifiers()) && publicNames.contains(m.getName()), false);
        }
    }

    private static void lookAtClasses() {
        Set<String> names = new HashSet<>();
        for (String method : FACE) {
            names.add(method.substring(method.indexOf(' ') + 1, method.indexOf('(')));
        }
        lookAtClass(PlanBounds.class, names);
        for (Class<?> inner : PlanBounds.class.getDeclaredClasses()) {
            due(inner + " is static", Modifier.isStatic(inner.getModifiers()), true);
            due(inner + " is open", Modifier.isPublic(inner.getModifiers()) || Modifier.isProtected(inner.getModifiers()), false);
            lookAtClass(inner, names);
        }
    }

    private static void lookAtSource() throws IOException {
        String source = Files.readString(Path.of("src/main/java/PlanBounds.java"));
        String code = source.replaceAll("(?s)/\\*.*?\\*/", "").replaceAll("//[^\n]*", "");
        for (String pattern : NOT_ALLOWED) {
            due("source has " + pattern, Pattern.compile(pattern).matcher(code).find(), false);
        }
    }

    public static void main(String[] args) throws IOException {
        lookAtFace();
        lookAtClasses();
        lookAtSource();
        System.out.println(wrong == 0 ? "the face is as due" : wrong + " things are not as due");
        if (wrong != 0) {
            System.exit(1);
        }
    }
}
