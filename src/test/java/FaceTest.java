import java.lang.reflect.Constructor;
import java.lang.reflect.Field;
import java.lang.reflect.Method;
import java.lang.reflect.Modifier;
import java.util.ArrayList;
import java.util.HashSet;
import java.util.List;
import java.util.Set;
import java.util.TreeSet;

/** The document's public face, and LANGUAGE.md's rule 1: all of it is there, and no more. */
public final class FaceTest {
    private static final String[] FACE = {
        "int feed(int,int,int,int,int)", "boolean end(int)", "int fault(int)", "int text(int)", "int rule(int)",
        "int site(int,int) throws java.util.NoSuchElementException", "long value(int,int)",
        "boolean tells(int,int)", "long all(int)", "int move(int,int,int)", "int freeze(int)", "int sync()",
        "int bound(int)", "int law(int)", "int add(int,int)", "int goal(int)", "int count(int)",
        "int years(int,long)", "int status(int)", "int undo()", "int log(int,int)", "int limit(int,int,int)",
        "int would(int,int,int,int)", "int asked(int,int,int,int)", "int walk(int,int,int,int,int)",
        "int partner(int,int,int)", "int race(int,int,int)", "long needs(int,int,int)",
        "int span(int,int,boolean)", "int goes(int,int)", "int fair(int)", "int spell(int,int)",
        "int step(int,int,int)", "int run(int,int)", "int perform(int)", "int most(int)", "int image()",
        "int back()", "int held(int)"};

    private static String told(Method method) {
        List<String> types = new ArrayList<>();
        for (Class<?> type : method.getParameterTypes()) {
            types.add(type.getName());
        }
        StringBuilder told = new StringBuilder(method.getReturnType().getName());
        told.append(' ').append(method.getName()).append('(').append(String.join(",", types)).append(')');
        for (Class<?> thrown : method.getExceptionTypes()) {
            told.append(" throws ").append(thrown.getName());
        }
        return told.toString();
    }

    private static void sameFace() {
        Set<String> found = new TreeSet<>();
        for (Method method : HushWatch.class.getDeclaredMethods()) {
            if (!Modifier.isPrivate(method.getModifiers())) {
                Check.due(told(method) + " is public, of the object",
                        Modifier.isPublic(method.getModifiers()) && !Modifier.isStatic(method.getModifiers()), true);
                found.add(told(method));
            }
        }
        Set<String> due = new TreeSet<>(List.of(FACE));
        Check.due("the methods " + found, found.equals(due), true);
    }

    private static void sameConstants() {
        Set<String> found = new TreeSet<>();
        for (Field field : HushWatch.class.getDeclaredFields()) {
            if (!Modifier.isPrivate(field.getModifiers())) {
                found.add(Modifier.toString(field.getModifiers()) + " " + field.getType() + " " + field.getName());
            }
        }
        Set<String> due = Set.of("public static final int NONE", "public static final int HIDDEN");
        Check.due("the constants " + found, found.equals(due), true);
        Constructor<?>[] constructors = HushWatch.class.getDeclaredConstructors();
        Check.due("constructors", constructors.length, 1);
        Check.due("constructor's parameters", constructors[0].getParameterCount(), 0);
        Check.due("the class", HushWatch.class.getModifiers(), Modifier.PUBLIC | Modifier.FINAL);
    }

    private static void noNameTwice() {
        Set<String> names = new HashSet<>();
        for (String method : FACE) {
            names.add(method.substring(method.indexOf(' ') + 1, method.indexOf('(')));
        }
        List<Class<?>> classes = new ArrayList<>(List.of(HushWatch.class.getDeclaredClasses()));
        Check.due("classes inside: twelve at most", classes.size() <= 11, true);
        for (Class<?> inside : classes) {
            Check.due(inside + " is static", Modifier.isStatic(inside.getModifiers()), true);
            Check.due(inside + " is not public", Modifier.isPublic(inside.getModifiers()), false);
            for (Method method : inside.getDeclaredMethods()) {
                Check.due(inside + " " + method.getName(), names.contains(method.getName()), false);
            }
        }
        for (Method method : HushWatch.class.getDeclaredMethods()) {
            if (Modifier.isPrivate(method.getModifiers())) {
                Check.due("private " + method.getName(), names.contains(method.getName()), false);
            }
        }
    }

    public static void main(String[] args) {
        sameFace();
        sameConstants();
        noNameTwice();
        Check.finish("FaceTest");
    }
}
