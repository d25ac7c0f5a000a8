import java.lang.reflect.Constructor;
import java.lang.reflect.Field;
import java.lang.reflect.Method;
import java.lang.reflect.Modifier;
import java.util.ArrayList;
import java.util.HashSet;
import java.util.List;
import java.util.Set;
import java.util.TreeSet;
import java.util.regex.Matcher;
import java.util.regex.Pattern;

/** The public face, read from the document's own block, and LANGUAGE.md's rule 1: all of it, and no more. */
public final class FaceTest {
    private static final Pattern METHOD =
            Pattern.compile("public (\\w+) (\\w+)\\(([^)]*)\\)(?: throws (\\w+))?");
    private static final Pattern CONSTANT = Pattern.compile("public static final int (\\w+) = (-?\\d+)");

    /** The document's own block: its methods as reflection would tell them. */
    private static Set<String> methodsDue() {
        Set<String> due = new TreeSet<>();
        for (String line : Told.face()) {
            Matcher method = METHOD.matcher(line);
            if (method.matches()) {
                String types = method.group(3).replaceAll("(\\w+) \\w+", "$1").replaceAll("\\s", "");
                due.add(method.group(1) + " " + method.group(2) + "(" + types + ")"
                        + (method.group(4) == null ? "" : " throws java.util." + method.group(4)));
                Told.promise(Told.FACE, line);
            }
        }
        return due;
    }

    private static String told(Method method) {
        List<String> types = new ArrayList<>();
        for (Class<?> type : method.getParameterTypes()) {
            types.add(type.getName());
        }
        StringBuilder told = new StringBuilder(method.getReturnType().getName());
        told.append(' ').append(method.getName()).append('(').append(String.join(",", types)).append(')');
        for (Class<?> thrown : method.getExceptionTypes()) {
            told.append(" throws ").append(thrown.getName());
        }
        return told.toString();
    }

    private static void sameFace() {
        Set<String> found = new TreeSet<>();
        for (Method method : HushWatch.class.getDeclaredMethods()) {
            if (!Modifier.isPrivate(method.getModifiers())) {
                Check.due(told(method) + " is public, of the object",
                        Modifier.isPublic(method.getModifiers()) && !Modifier.isStatic(method.getModifiers()), true);
                found.add(told(method));
            }
        }
        Set<String> due = methodsDue();
        Check.due("the methods " + found + " | " + due, found.equals(due), true);
        Check.due("promises 2 to 40", due.size(), 39);
    }

    private static void sameConstants() throws ReflectiveOperationException {
        Set<String> found = new TreeSet<>();
        for (Field field : HushWatch.class.getDeclaredFields()) {
            if (!Modifier.isPrivate(field.getModifiers())) {
                found.add(Modifier.toString(field.getModifiers()) + " " + field.getType() + " " + field.getName()
                        + " = " + field.getInt(null));
            }
        }
        Set<String> due = new TreeSet<>();
        for (String line : Told.face()) {
            if (CONSTANT.matcher(line).matches()) {
                due.add(line);
                Told.promise(Told.FACE, line);
            }
        }
        Check.due("the constants " + found + " | " + due, found.equals(due), true);
    }

    private static void sameClass() {
        Told.promise(Told.FACE, "public final class HushWatch");
        Check.due("the class", HushWatch.class.getModifiers(), Modifier.PUBLIC | Modifier.FINAL);
        Told.promise(Told.FACE, "public HushWatch();");
        Constructor<?>[] constructors = HushWatch.class.getDeclaredConstructors();
        Check.due("constructors", constructors.length, 1);
        Check.due("constructor's parameters", constructors[0].getParameterCount(), 0);
        Check.due("a public constructor", constructors[0].getModifiers(), Modifier.PUBLIC);
        Told.promise(Told.FACE, "import java.util.NoSuchElementException;");
        Check.due("what site throws", Check.siteThrows(new HushWatch(), 0, 0), true);
    }

    private static void noNameTwice() {
        Set<String> names = new HashSet<>();
        for (String method : methodsDue()) {
            names.add(method.substring(method.indexOf(' ') + 1, method.indexOf('(')));
        }
        List<Class<?>> classes = new ArrayList<>(List.of(HushWatch.class.getDeclaredClasses()));
        Check.due("classes inside: twelve at most", classes.size() <= 11, true);
        for (Class<?> inside : classes) {
            Check.due(inside + " is static", Modifier.isStatic(inside.getModifiers()), true);
            Check.due(inside + " is not public", Modifier.isPublic(inside.getModifiers()), false);
            for (Method method : inside.getDeclaredMethods()) {
                Check.due(inside + " " + method.getName(), names.contains(method.getName()), false);
            }
        }
        for (Method method : HushWatch.class.getDeclaredMethods()) {
            if (Modifier.isPrivate(method.getModifiers())) {
                Check.due("private " + method.getName(), names.contains(method.getName()), false);
            }
        }
    }

    public static void main(String[] args) throws ReflectiveOperationException {
        sameFace();
        sameConstants();
        sameClass();
        noNameTwice();
        Told.finish("FaceTest", Told.FACE, Told.FACE);
    }
}
