import java.io.IOException;
import java.lang.management.ManagementFactory;
import java.lang.reflect.Array;
import java.lang.reflect.Field;
import java.lang.reflect.InvocationTargetException;
import java.lang.reflect.Method;
import java.lang.reflect.Modifier;
import java.nio.file.Files;
import java.nio.file.Path;
import java.util.ArrayDeque;
import java.util.ArrayList;
import java.util.Deque;
import java.util.HashMap;
import java.util.IdentityHashMap;
import java.util.List;
import java.util.Map;
import java.util.Random;
import java.util.Set;
import java.util.TreeSet;
import java.util.regex.Matcher;
import java.util.regex.Pattern;

/** What LANGUAGE.md asks and a test can see: the face, the words of the file, the room, no throw by itself. */
public final class RulesTest {
    private static final Checks checks = new Checks();

    private static final String[] FACE = {
        "write(int, long)", "wipe()", "fault()", "lay()", "person(int, int)", "had(int, int)", "mask(int, int)",
        "dawn(int)", "change(int, int)", "deed(int, int)", "sentence(int, int)", "pardon(int, int)", "undo()",
        "chance(int)", "anew(int)", "liked(int)", "allChange(int)", "rounds(int)", "seen(int, int, boolean)",
        "forget()", "fits()", "sure(int)", "fairest(int)", "make(int, int)", "falseOne()",
        "year(int, int, int, int)", "keep()", "back()", "count(int)",
    };

    private static final String[] FORBIDDEN = {
        "\\bimport\\b", "\\bpackage\\b", "\\btry\\b", "\\bcatch\\b", "\\bfinally\\b", "\\bthrow\\b", "->", "::",
        "\\bsynchronized\\b", "\\bassert\\b", "\\binstanceof\\b", "Exact\\(", "\\bdouble\\b", "\\bfloat\\b",
        "\\bstatic\\s*\\{", "\\bprotected\\b", "while \\(true\\)", "for \\(;;\\)", "\\bnull\\b", "\\bString\\b", "_VALUE\\b",
    };

    public static void main(String[] args) throws Exception {
        face();
        nestedClasses();
        words();
        libraryNames();
        methodsStayShort();
        callsGoAtMostEightDeep();
        roomOfOneObject();
        callsMakeNothing();
        nothingThrows();
        checks.end();
    }

    private static String sign(Method method) {
        StringBuilder sign = new StringBuilder(method.getName()).append('(');
        for (Class<?> type : method.getParameterTypes()) {
            sign.append(sign.charAt(sign.length() - 1) == '(' ? "" : ", ").append(type.getSimpleName());
        }
        return sign.append(')').toString();
    }

    private static void face() {
        checks.part("rule 1");
        Class<?> c = MasksAtDawn.class;
        Set<String> found = new TreeSet<>();
        Set<String> names = new TreeSet<>();
        for (Method method : c.getDeclaredMethods()) {
            if (Modifier.isPublic(method.getModifiers())) {
                found.add(sign(method));
                names.add(method.getName());
                checks.due(method.getName() + " answers", method.getReturnType(), int.class);
                checks.due(method.getName() + " is static", Modifier.isStatic(method.getModifiers()), false);
            }
        }
        checks.due("methods", found, new TreeSet<>(Set.of(FACE)));
        for (Method method : c.getDeclaredMethods()) {
            if (!Modifier.isPublic(method.getModifiers())) {
                checks.due(method + " private", Modifier.isPrivate(method.getModifiers()), true);
                checks.due(method + " has a name of the face", names.contains(method.getName()), false);
            }
        }
        Set<String> constants = new TreeSet<>();
        for (Field field : c.getDeclaredFields()) {
            int m = field.getModifiers();
            if (Modifier.isPrivate(m)) {
                checks.due(field + " static but not final", Modifier.isStatic(m) && !Modifier.isFinal(m), false);
            } else {
                checks.due(field + " a constant", Modifier.isPublic(m) && Modifier.isStatic(m) && Modifier.isFinal(m), true);
                constants.add(field.getName());
            }
        }
        checks.due("constants", constants, new TreeSet<>(Set.of("BAD", "NO", "FULL", "NONE")));
        checks.due("constructors", c.getDeclaredConstructors().length, 1);
        checks.due("constructor", Modifier.isPublic(c.getDeclaredConstructors()[0].getModifiers()), true);
        checks.due("the outer class has few fields", privateFieldsBesideConstants(c) <= 20, true);
        checks.due("class", c.getModifiers(), Modifier.PUBLIC | Modifier.FINAL);
        checks.due("interfaces", c.getInterfaces().length, 0);
    }

    private static int privateFieldsBesideConstants(Class<?> c) {
        int many = 0;
        for (Field field : c.getDeclaredFields()) {
            many += Modifier.isStatic(field.getModifiers()) ? 0 : 1;
        }
        return many;
    }

    private static void nestedClasses() {
        checks.part("rules 1, 2, 11");
        Set<String> names = new TreeSet<>();
        for (String sign : FACE) {
            names.add(sign.substring(0, sign.indexOf('(')));
        }
        Class<?>[] nested = MasksAtDawn.class.getDeclaredClasses();
        checks.due("classes", nested.length <= 11, true);
        for (Class<?> c : nested) {
            int m = c.getModifiers();
            checks.due(c + " static and not public", Modifier.isStatic(m) && !Modifier.isPublic(m), true);
            checks.due(c + " has few fields", c.getDeclaredFields().length <= 20, true);
            for (Field field : c.getDeclaredFields()) {
                int f = field.getModifiers();
                checks.due(field + " static but not final", Modifier.isStatic(f) && !Modifier.isFinal(f), false);
            }
            for (Method method : c.getDeclaredMethods()) {
                checks.due(method + " has a name of the face", names.contains(method.getName()), false);
                checks.due(method + " takes few", method.getParameterCount() <= 7, true);
            }
        }
    }

    private static String source() throws IOException {
        return Files.readString(Path.of("src/main/java/MasksAtDawn.java"));
    }

    private static String code() throws IOException {
        return source().replaceAll("(?s)/\\*.*?\\*/", "").replaceAll("//[^\n]*", "");
    }

    private static void libraryNames() throws IOException {
        checks.part("rule 4");
        Set<String> found = new TreeSet<>();
        Matcher name = Pattern.compile("\\b[A-Z][a-z]\\w*\\s*\\.\\s*\\w+").matcher(code());
        while (name.find()) {
            found.add(name.group());
        }
        found.removeAll(Set.of("Math.max", "Math.min", "Integer.bitCount", "System.arraycopy"));
        checks.due("names of the library", found, new TreeSet<>());
        Set<String> made = new TreeSet<>();
        Matcher creation = Pattern.compile("\\bnew (\\w+)").matcher(code());
        while (creation.find()) {
            made.add(creation.group(1));
        }
        made.removeAll(Set.of("int", "Text", "Town", "Day", "Shelf", "Sightings", "Ways", "Alley"));
        checks.due("made of other classes", made, new TreeSet<>());
    }

    private static void words() throws IOException {
        checks.part("rules 3 to 10");
        String code = code();
        for (String forbidden : FORBIDDEN) {
            checks.due("found " + forbidden, Pattern.compile(forbidden).matcher(code).find(), false);
        }
        checks.due("signs", source().chars().allMatch(sign -> sign == '\n' || sign >= 32 && sign < 127), true);
    }

    private record Body(String name, List<String> lines) {
    }

    /** A method begins by a head that is no statement and ends by the } that stands as far to the right. */
    private static List<Body> bodies() throws IOException {
        List<Body> bodies = new ArrayList<>();
        Pattern head = Pattern.compile("( +)(?!if|for|while|switch|else|do)\\w[^=(]*?(\\w+)\\([^()]*\\) \\{");
        Body open = null;
        String end = null;
        for (String line : source().replaceAll("//[^\n]*", "").split("\n")) {
            Matcher found = head.matcher(line);
            if (open == null && found.matches()) {
                open = new Body(found.group(2), new ArrayList<>());
                end = found.group(1) + "}";
            } else if (open != null && line.equals(end)) {
                bodies.add(open);
                open = null;
            } else if (open != null) {
                open.lines.add(line);
            }
        }
        return bodies;
    }

    private static void methodsStayShort() throws IOException {
        checks.part("rule 11");
        for (Body body : bodies()) {
            checks.due("lines of " + body.name + " few", body.lines.size() <= 60, true);
        }
        int methods = MasksAtDawn.class.getDeclaredMethods().length + MasksAtDawn.class.getDeclaredConstructors().length;
        for (Class<?> c : MasksAtDawn.class.getDeclaredClasses()) {
            methods += c.getDeclaredMethods().length;
        }
        // the constructor of Shelf is the only one inside that is written
        checks.due("methods found", bodies().size(), methods + 1);
    }

    /** By names, those of several classes taken together: that can only make it deeper. */
    private static void callsGoAtMostEightDeep() throws IOException {
        checks.part("rules 8, 11");
        Map<String, String> bodies = new HashMap<>();
        for (Body body : bodies()) {
            bodies.merge(body.name, String.join("\n", body.lines), String::concat);
        }
        for (String name : bodies.keySet()) {
            int deep = depth(name, bodies, 0);
            checks.due(name + " goes " + deep + " deep", deep <= 8, true);
        }
        checks.due("rounds asks at", depth("rounds", bodies, 0) >= 6, true);
    }

    /** A method that comes back to itself is beyond every depth. */
    private static int depth(String name, Map<String, String> bodies, int above) {
        int below = 0;
        Matcher called = Pattern.compile("(\\w+)\\(").matcher(bodies.get(name));
        while (above < 20 && called.find()) {
            if (bodies.containsKey(called.group(1))) {
                below = Math.max(below, depth(called.group(1), bodies, above + 1));
            }
        }
        return 1 + below;
    }

    private static void roomOfOneObject() throws IllegalAccessException, IOException {
        checks.part("the room");
        Map<Object, Boolean> known = new IdentityHashMap<>();
        Deque<Object> open = new ArrayDeque<>();
        MasksAtDawn x = new MasksAtDawn();
        open.push(x);
        known.put(x, true);
        int elements = 0;
        while (!open.isEmpty()) {
            Object o = open.pop();
            if (o.getClass().isArray()) {
                elements += Array.getLength(o);
                for (int e = 0; o instanceof Object[] && e < Array.getLength(o); e++) {
                    meet(Array.get(o, e), known, open);
                }
                continue;
            }
            for (Field field : o.getClass().getDeclaredFields()) {
                if (!Modifier.isStatic(field.getModifiers())) {
                    elements++;
                    field.setAccessible(true);
                    if (!field.getType().isPrimitive()) {
                        meet(field.get(o), known, open);
                    }
                }
            }
        }
        String room = known.size() + " objects, " + elements + " fields and elements";
        System.out.println("one object: " + room);
        checks.due("README.md says " + room, Files.readString(Path.of("README.md")).contains(room), true);
        checks.due("objects few", known.size() <= 200, true);
        checks.due("elements few", elements <= 2000, true);
    }

    private static void meet(Object o, Map<Object, Boolean> known, Deque<Object> open) {
        if (o != null && known.put(o, true) == null) {
            open.push(o);
        }
    }

    private static void everyCall(MasksAtDawn x, int n) {
        int p = n % 6, q = n / 6 % 6, k = n % 5;
        x.dawn(n % 10000);
        x.change(p, q);
        x.deed(p, q);
        x.sentence(p, q);
        x.pardon(p, q);
        x.make(p, k);
        x.keep();
        x.back();
        x.undo();
        x.chance(0);
        x.anew(n % 2);
        x.liked(n % 2);
        x.allChange(p);
        x.rounds(p);
        x.seen(p, q, n % 2 == 0);
        x.fits();
        x.sure(p);
        x.forget();
        x.fairest(p);
        x.falseOne();
        x.year(n % 10000, 60, p, k);
        x.fault();
        x.lay();
        x.person(p, q);
        x.had(p, k);
        x.mask(p, 1);
        x.count(n % 8);
    }

    private static void callsMakeNothing() {
        checks.part("the room");
        com.sun.management.ThreadMXBean threads =
            (com.sun.management.ThreadMXBean) ManagementFactory.getThreadMXBean();
        long id = Thread.currentThread().getId();
        MasksAtDawn x = Checks.laid(
            "k3,5,1;k12,2,2;k48,5,1;k63,9,1;k1,1,1;p63;w12345;p21;w54321;p42;w90090;p7;w55500;p56;w01239;p9;w99990;d45;l3;");
        everyCall(x, 0);
        threads.getThreadAllocatedBytes(id);
        long before = threads.getThreadAllocatedBytes(id);
        for (int n = 0; n < 18; n++) {
            everyCall(x, n * 7);
        }
        long made = threads.getThreadAllocatedBytes(id) - before;
        checks.due("486 calls make next to nothing (" + made + " bytes)", made < 4096, true);
    }

    /** Numbers of all sizes in every call and many states. */
    private static void nothingThrows() throws IllegalAccessException {
        checks.part("rule 7");
        Random random = new Random(18);
        int[] some = {0, 1, 2, 3, 4, 5, 6, 7, 8, 9, 60, 61, 9999, 10000, -1, -2, 31, 32, 64,
            Integer.MIN_VALUE, Integer.MAX_VALUE, Integer.MIN_VALUE + 1, Integer.MAX_VALUE - 1};
        Method[] methods = MasksAtDawn.class.getMethods();
        java.util.Arrays.sort(methods, java.util.Comparator.comparing(Method::toString));
        for (int run = 0; run < 200; run++) {
            MasksAtDawn x = run % 4 == 0 ? new MasksAtDawn()
                : Checks.laid("k3,5,1;k12,2,2;p63;w12;p21;w54;p42;l" + run % 2 + ";d3;");
            for (int call = 0; call < 400; call++) {
                Method method = methods[random.nextInt(methods.length)];
                if (method.getDeclaringClass() == MasksAtDawn.class) {
                    callOne(x, method, random, some);
                }
            }
        }
    }

    private static void callOne(MasksAtDawn x, Method method, Random random, int[] some)
            throws IllegalAccessException {
        Class<?>[] types = method.getParameterTypes();
        Object[] values = new Object[types.length];
        for (int v = 0; v < values.length; v++) {
            int number = some[random.nextInt(some.length)];
            values[v] = types[v] == boolean.class ? random.nextBoolean()
                : types[v] == long.class ? (Object) random.nextLong() : (Object) number;
        }
        try {
            int answer = (Integer) method.invoke(x, values);
            checks.due(method.getName() + " answers at least -4", answer >= -4, true);
        } catch (InvocationTargetException e) {
            checks.due(method.getName() + java.util.Arrays.toString(values), e.getCause(), "an answer");
        }
    }
}
