import java.io.IOException;
import java.lang.reflect.Field;
import java.lang.reflect.Method;
import java.lang.reflect.Modifier;
import java.nio.file.Files;
import java.nio.file.Path;
import java.util.Set;
import java.util.TreeSet;

/** The face of JobLoop is that of the document, and the rules of LANGUAGE.md that a look can tell. */
public final class JobLoopFaceTest {
    private static final Path SOURCE = Path.of("src/main/java/JobLoop.java");
    private static final int MOST_CLASSES = 12, MOST_FIELDS = 20, MOST_PARAMETERS = 7;

    private static final Set<String> METHODS = Set.of(
        "int promise()", "boolean resolve(int,int,int)", "boolean reject(int,int,int)",
        "int then(int,int,int)", "boolean thenable(int,int,int,int,int,int)",
        "int step(int,int,int,int)", "int empty(int)", "int start(int,int,int)",
        "int later(int,int,int,int)", "int item(int,int)", "int group(int)", "int run(int)",
        "int forget()", "int state(int,int)", "long noted(int,int)", "int count(int)");
    private static final Set<String> CONSTANTS = Set.of(
        "int BAD", "int FULL", "int PENDING", "int FULFILLED", "int REJECTED", "long NONE");
    private static final String[] FORBIDDEN = {
        "import ", "package ", "->", "::", "finally", "synchronized", "assert ", "throw ", "throws ",
        "try {", "catch (", "toString", "hashCode", "equals(", "System.", "Thread", "Random", "native ",
        "float ", "double "
    };

    private static final Due due = new Due("JobLoopFaceTest");

    public static void main(String[] args) throws IOException {
        face();
        for (Class<?> inside : JobLoop.class.getDeclaredClasses()) {
            inside(inside);
        }
        due.is("classes", JobLoop.class.getDeclaredClasses().length + 1 <= MOST_CLASSES, true);
        text(Files.readString(SOURCE));
        due.close();
    }

    private static void face() {
        due.is("public and final", JobLoop.class.getModifiers(), Modifier.PUBLIC | Modifier.FINAL);
        due.is("constructors", JobLoop.class.getDeclaredConstructors().length, 1);
        due.is("public constructors", JobLoop.class.getConstructors().length, 1);
        due.is("its parameters", JobLoop.class.getConstructors()[0].getParameterCount(), 0);
        Set<String> methods = new TreeSet<>();
        Set<String> names = new TreeSet<>();
        for (Method m : JobLoop.class.getDeclaredMethods()) {
            if (Modifier.isPublic(m.getModifiers())) {
                methods.add(told(m));
                names.add(m.getName());
            }
        }
        same("methods", methods, METHODS);
        for (Method m : JobLoop.class.getDeclaredMethods()) {
            if (!Modifier.isPublic(m.getModifiers())) {
                due.is(m.getName() + " is private", Modifier.isPrivate(m.getModifiers()), true);
                due.is(m.getName() + " is no name of the face", names.contains(m.getName()), false);
            }
        }
        Set<String> constants = new TreeSet<>();
        for (Field f : JobLoop.class.getDeclaredFields()) {
            if (Modifier.isPublic(f.getModifiers())) {
                constants.add(f.getType() + " " + f.getName());
                due.is(f.getName() + " is constant", isConstant(f), true);
            } else {
                due.is(f.getName() + " is private", Modifier.isPrivate(f.getModifiers()), true);
            }
        }
        same("constants", constants, CONSTANTS);
        members(JobLoop.class);
    }

    private static void inside(Class<?> inside) {
        String name = inside.getSimpleName();
        due.is(name + " is static", Modifier.isStatic(inside.getModifiers()), true);
        due.is(name + " is public", Modifier.isPublic(inside.getModifiers()), false);
        members(inside);
    }

    private static void members(Class<?> c) {
        int fields = 0;
        for (Field f : c.getDeclaredFields()) {
            if (Modifier.isStatic(f.getModifiers())) {
                due.is(f.getName() + " is final", Modifier.isFinal(f.getModifiers()), true);
            } else {
                fields++;
            }
        }
        due.is(c.getSimpleName() + " has few fields", fields <= MOST_FIELDS, true);
        for (Method m : c.getDeclaredMethods()) {
            due.is(m.getName() + " has few parameters", m.getParameterCount() <= MOST_PARAMETERS, true);
            due.is(m.getName() + " declares exceptions", m.getExceptionTypes().length, 0);
        }
    }

    private static void text(String source) {
        String code = source.replaceAll("(?s)/\\*.*?\\*/", "").replaceAll("//[^\n]*", "");
        for (String word : FORBIDDEN) {
            due.is("the source holds '" + word + "'", code.contains(word), false);
        }
        due.is("the source is ASCII", source.chars().allMatch(c -> c < 128), true);
    }

    private static boolean isConstant(Field f) {
        return Modifier.isStatic(f.getModifiers()) && Modifier.isFinal(f.getModifiers());
    }

    private static String told(Method m) {
        StringBuilder text = new StringBuilder(m.getReturnType() + " " + m.getName() + "(");
        for (int i = 0; i < m.getParameterCount(); i++) {
            text.append(i == 0 ? "" : ",").append(m.getParameterTypes()[i]);
        }
        return text.append(")").toString();
    }

    private static void same(String what, Set<String> got, Set<String> want) {
        if (!got.equals(want)) {
            System.out.println(what + ": " + got + ", due are " + new TreeSet<>(want));
        }
        due.is(what + " are those of the document", got.equals(want), true);
    }
}
