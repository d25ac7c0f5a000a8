import java.lang.reflect.InvocationTargetException;
import java.lang.reflect.Method;
import java.util.ArrayList;
import java.util.Comparator;
import java.util.List;
import java.util.Random;

/**
 * Random runs of calls, answer by answer set against the model. The seeds are fixed, so every run of
 * this test is the same.
 */
public final class ModelTest {
    private static final int RUNS = 1500;
    private static final int CALLS = 512;
    private static final String[] LAWS = {"sum", "square", "most", "taxi"};

    private final Random random;
    private final HushWatch real = new HushWatch();
    private final Model model = new Model();
    private final List<String> told = new ArrayList<>();
    private final List<Method> methods;
    private int calls = 0;

    private ModelTest(long seed, List<Method> methods) {
        this.random = new Random(seed);
        this.methods = methods;
    }

    private static Object answer(Object of, Method method, Object... args) {
        try {
            return method.invoke(of, args);
        } catch (InvocationTargetException e) {
            return "throws." + e.getCause().getClass().getSimpleName();
        } catch (IllegalAccessException e) {
            throw new IllegalStateException(e);
        }
    }

    private void both(String name, Object... args) throws NoSuchMethodException {
        for (Method method : methods) {
            if (method.getName().equals(name)) {
                both(method, args);
            }
        }
    }

    private void both(Method method, Object... args) throws NoSuchMethodException {
        if (calls++ >= CALLS) {
            return;
        }
        Method twin = Model.class.getDeclaredMethod(method.getName(), method.getParameterTypes());
        twin.setAccessible(true);
        Object got = answer(real, method, args);
        Object want = answer(model, twin, args);
        StringBuilder call = new StringBuilder(method.getName());
        for (Object arg : args) {
            call.append(' ').append(arg);
        }
        told.add(call + " -> " + got);
        boolean same = got.equals(want);
        Check.due(call + " (" + got + ", " + want + ")", same, true);
        if (!same) {
            told.forEach(System.out::println);
            throw new IllegalStateException("a run ends where it differs");
        }
    }

    private void feed(String text) throws NoSuchMethodException {
        both("end", 0);
        for (int at = 0; at < text.length(); at += 20) {
            Object[] numbers = new Object[5];
            for (int i = 0; i < 5; i++) {
                int number = 0;
                for (int j = 0; j < 4; j++) {
                    int k = at + 4 * i + j;
                    number = number << 8 | (k < text.length() ? text.charAt(k) & 255 : 0);
                }
                numbers[i] = number;
            }
            both("feed", numbers);
        }
    }

    private int pick(int least, int most) {
        return least + random.nextInt(most - least + 1);
    }

    private boolean rarely(int of) {
        return random.nextInt(of) == 0;
    }

    private String blanks() {
        return rarely(6) ? " ".repeat(pick(1, 2)) : "";
    }

    private String watchText() {
        List<String> clauses = new ArrayList<>();
        int wide = rarely(4) ? 999 : 20;
        for (int i = rarely(12) ? pick(0, 9) : pick(2, 8); i > 0; i--) {
            clauses.add("site " + pick(-wide, wide) + blanks() + "," + blanks() + pick(-wide, wide));
        }
        if (!rarely(4)) {
            clauses.add(pick(0, clauses.size()), "law " + LAWS[pick(0, 3)]);
        }
        if (!rarely(4)) {
            int bound = rarely(3) ? pick(-200, 20000) : rarely(2) ? pick(10, 300) : pick(100, 4000);
            clauses.add(pick(0, clauses.size()), "bound " + bound);
        }
        if (!rarely(3)) {
            clauses.add(pick(0, clauses.size()), "goal " + (rarely(3) ? pick(1, 9999) : pick(1, 90)));
        }
        if (rarely(15)) {
            clauses.add(pick(0, clauses.size()), "goal 5");
        }
        return spoilt(String.join(blanks() + ";" + blanks(), clauses));
    }

    private String scriptText(int sites) {
        List<String> steps = new ArrayList<>();
        for (int i = rarely(9) ? pick(1, 14) : pick(1, 6); i > 0; i--) {
            int site = rarely(12) ? pick(-1, 9) : pick(0, Math.max(0, sites - 1));
            int wide = rarely(6) ? 10000 : 40;
            switch (pick(0, 9)) {
                case 0: steps.add("add " + site + "," + pick(0, 20)); break;
                case 1: steps.add("bound " + pick(-100, 3000)); break;
                case 2: steps.add("law " + LAWS[pick(0, 3)]); break;
                case 3: steps.add("sync"); break;
                case 4: steps.add("goal " + pick(0, 200)); break;
                case 5: steps.add("freeze " + site); break;
                default: steps.add("move " + site + "," + pick(-wide, wide) + "," + pick(-wide, wide)); break;
            }
        }
        return spoilt(String.join(blanks() + ";" + blanks(), steps));
    }

    /** A text, or rarely one with some signs gone, more, or others. */
    private String spoilt(String text) {
        if (!rarely(4) || text.isEmpty()) {
            return text;
        }
        StringBuilder spoilt = new StringBuilder(text);
        String signs = ";,- 0123456789abcdelostwz~\tA" + (char) 200;
        for (int i = pick(1, 3); i > 0 && spoilt.length() > 0; i--) {
            int at = pick(0, spoilt.length() - 1);
            char sign = signs.charAt(pick(0, signs.length() - 1));
            switch (pick(0, 3)) {
                case 0: spoilt.deleteCharAt(at); break;
                case 1: spoilt.insert(at, sign); break;
                case 2: spoilt.setCharAt(at, sign); break;
                default: spoilt.setLength(at); break;
            }
        }
        return spoilt.toString();
    }

    private int site() {
        return rarely(25) ? pick(-1, 9) : pick(0, Math.max(0, model.held(0) - 1));
    }

    private int way() {
        int[] wides = {3, 12, 12, 40, 40, 200, 9999};
        int wide = wides[pick(0, wides.length - 1)];
        return rarely(40) ? pick(-10001, 10001) : pick(-wide, wide);
    }

    private int odd() {
        int[] odds = {Integer.MIN_VALUE, Integer.MAX_VALUE, -2, -1, 0, 1, 10000, -10000, 99999, 1 << 31 >>> 1};
        return odds[pick(0, odds.length - 1)];
    }

    private int what(int most) {
        return rarely(30) ? pick(-1, most + 1) : pick(0, most);
    }

    private Object[] args(Method method) {
        switch (method.getName()) {
            case "end": return new Object[] {rarely(2) ? model.held(2) : pick(-1, 321)};
            case "fault":
            case "text": return new Object[] {pick(-1, 2)};
            case "rule": return new Object[] {what(3)};
            case "site": return new Object[] {site(), what(13)};
            case "value":
            case "tells": return new Object[] {rarely(9) ? pick(-1000003, 1000003) : way(), way()};
            case "all": return new Object[] {what(5)};
            case "freeze": return new Object[] {site()};
            case "bound": return new Object[] {rarely(3) ? pick(-10000002, 10000002) : pick(-50, 3000)};
            case "law": return new Object[] {what(3)};
            case "add": return new Object[] {site(), rarely(5) ? pick(-1, 1001) : pick(1, 15)};
            case "goal": return new Object[] {rarely(4) ? pick(-1, 10001) : pick(1, 99)};
            case "count": return new Object[] {what(5)};
            case "years": return new Object[] {rarely(9) ? pick(-1, 42) : pick(1, 12), random.nextLong()};
            case "status": return new Object[] {what(2)};
            case "log": return new Object[] {rarely(3) ? pick(-1, 61) : pick(0, 8), what(2)};
            case "would": return new Object[] {site(), way(), way(), what(2)};
            case "asked": return new Object[] {site(), way(), way(), pick(-1, 7)};
            case "walk": return new Object[] {site(), way(), way(), what(99), what(2)};
            case "race": return new Object[] {way(), way(), what(1)};
            case "span": return new Object[] {site(), what(1), random.nextBoolean()};
            case "goes": return new Object[] {site(), what(1)};
            case "fair": return new Object[] {what(1)};
            case "spell": return new Object[] {site(), pick(-2, 24)};
            case "step": return new Object[] {what(3), what(11), what(3)};
            case "run": return new Object[] {what(3), what(1)};
            case "perform": return new Object[] {what(3)};
            case "most": return new Object[] {what(11)};
            case "held": return new Object[] {what(4)};
            case "move":
            case "limit":
            case "partner":
            case "needs": return new Object[] {site(), way(), way()};
            default: return oddArgs(method);
        }
    }

    private Object[] oddArgs(Method method) {
        Class<?>[] types = method.getParameterTypes();
        Object[] args = new Object[types.length];
        for (int i = 0; i < types.length; i++) {
            args[i] = types[i] == long.class ? (Object) (long) odd()
                    : types[i] == boolean.class ? (Object) random.nextBoolean() : (Object) odd();
        }
        return args;
    }

    private void lookAround() throws NoSuchMethodException {
        for (int what = 0; what < 12; what++) {
            both("most", what);
        }
        for (int what = 0; what < 6; what++) {
            both("all", what);
            both("count", what);
            both("held", what);
        }
        int site = pick(0, Math.max(0, model.held(0) - 1));
        for (int what = 0; what < 14; what++) {
            both("site", site, what);
        }
    }

    private void oneRun() throws NoSuchMethodException {
        boolean manyMoves = rarely(2);
        if (!rarely(10)) {
            feed(watchText());
            both("text", 0);
        }
        while (calls < CALLS) {
            if (rarely(150)) {
                feed(watchText());
                both("fault", 0);
                both("text", 0);
            } else if (rarely(60)) {
                feed(scriptText(model.held(0)));
                both("fault", 1);
                both("text", 1);
            } else if (rarely(90)) {
                lookAround();
            } else if (rarely(50)) {
                Method method = methods.get(pick(0, methods.size() - 1));
                both(method, oddArgs(method));
            } else if (manyMoves && !rarely(3)) {
                int wide = rarely(5) ? 100 : 15;
                both("move", site(), pick(-wide, wide), pick(-wide, wide));
            } else {
                Method method = methods.get(pick(0, methods.size() - 1));
                both(method, args(method));
            }
        }
    }

    public static void main(String[] args) throws NoSuchMethodException {
        List<Method> methods = new ArrayList<>(List.of(HushWatch.class.getDeclaredMethods()));
        methods.removeIf(method -> !java.lang.reflect.Modifier.isPublic(method.getModifiers()));
        methods.sort(Comparator.comparing(Method::getName));
        for (int run = 0; run < RUNS; run++) {
            new ModelTest(run, methods).oneRun();
        }
        Check.finish("ModelTest");
    }
}
