import java.lang.management.ManagementFactory;
import java.lang.reflect.Constructor;
import java.lang.reflect.Field;
import java.lang.reflect.Method;
import java.lang.reflect.Modifier;
import java.nio.file.Files;
import java.nio.file.Path;
import java.util.Arrays;
import java.util.List;
import java.util.TreeSet;

/**
 * What LANGUAGE.md asks of src/main/java/SlopeChecker.java, as far as it can be seen by reflection and in the text,
 * and that calls make nothing new. Argument: the folder of the project.
 */
public final class RulesTest {
    private static final String[] FACE = {
        "int feed(int, int, int, int, int)", "int text(int)", "int fault(int)", "int step(int)", "int check(int)",
        "int mode(int, int)", "int edge(int, int)", "int normal(int, int)", "int normalOf(int, int)",
        "int part(int, int)", "int limit(int, int, int, int)", "long corner(int, int, int, int)",
        "int has(int, int, int, int, int)", "int where(int, int, int, int)", "int within(int, int)",
        "int meets(int, int, int, int)", "int way(int)", "int onWay(int, int, int)", "long wayTime(int, int)",
        "int ride(int, int, int, int, int)", "int ridden(int, int)", "int ended()", "int followed()",
        "int ifStart(int, int, int, int, int, int)", "int ifMost(int, int, int)", "int ifWithout(int, int, int)",
        "int blamed(int)", "int count(int)"};

    private static final String[] FORBIDDEN = {
        "->", "::", "catch", "finally", "synchronized", "assert ", "static {", "System.", "Exact(", "double", "float",
        "Object", "instanceof", "Thread", "Random", "hashCode", "toString", "equals(", "package ", "native", "volatile",
        "var ", "yield", "record ", "sealed", "goto"};

    private static int wrong = 0;
    private static int asked = 0;

    private static void holds(boolean b, String what) {
        asked++;
        if (!b) {
            wrong++;
            System.out.println("it does not hold: " + what);
        }
    }

    private static String told(Method m) {
        StringBuilder b = new StringBuilder();
        for (Class<?> c : m.getParameterTypes()) {
            b.append(b.length() == 0 ? "" : ", ").append(c.getSimpleName());
        }
        return m.getReturnType().getSimpleName() + " " + m.getName() + "(" + b + ")";
    }

    private static void face() {
        Class<?> c = SlopeChecker.class;
        holds(Modifier.isPublic(c.getModifiers()) && Modifier.isFinal(c.getModifiers()), "the class is public and final");
        Constructor<?>[] made = c.getDeclaredConstructors();
        holds(made.length == 1 && Modifier.isPublic(made[0].getModifiers()) && made[0].getParameterCount() == 0,
            "one public constructor without parameters");
        TreeSet<String> open = new TreeSet<>();
        TreeSet<String> names = new TreeSet<>();
        for (Method m : c.getDeclaredMethods()) {
            if (!Modifier.isPrivate(m.getModifiers())) {
                open.add(told(m));
                names.add(m.getName());
            }
        }
        holds(open.equals(new TreeSet<>(Arrays.asList(FACE))), "the face is that of the document: " + open);
        for (Method m : c.getDeclaredMethods()) {
            boolean isMode = m.getName().equals("mode");
            TreeSet<String> thrown = new TreeSet<>();
            for (Class<?> e : m.getExceptionTypes()) {
                thrown.add(e.getSimpleName());
            }
            holds(isMode ? thrown.toString().equals("[IndexOutOfBoundsException, NoSuchElementException]") : thrown.isEmpty(),
                "what " + m.getName() + " says that it throws");
            holds(!Modifier.isPrivate(m.getModifiers()) || !names.contains(m.getName()),
                "no private method has a public one's name: " + m.getName());
        }
        for (Class<?> inner : c.getDeclaredClasses()) {
            holds(Modifier.isStatic(inner.getModifiers()), inner.getName() + " is static");
            for (Method m : inner.getDeclaredMethods()) {
                holds(!names.contains(m.getName()), "no method inside has a public one's name: " + m.getName());
            }
        }
        holds(c.getDeclaredClasses().length <= 11, "at most twelve classes");
    }

    private static void fields(Class<?> c) throws IllegalAccessException {
        int own = 0;
        for (Field f : c.getDeclaredFields()) {
            int m = f.getModifiers();
            if (Modifier.isStatic(m)) {
                holds(Modifier.isFinal(m), f + " is final");
            } else {
                own++;
            }
            if (c == SlopeChecker.class) {
                boolean isNone = f.getName().equals("NONE") && Modifier.isPublic(m) && f.getInt(null) == -1;
                holds(isNone || Modifier.isPrivate(m), f + " is private");
            }
        }
        holds(own <= 20, c + " has at most 20 fields");
        for (Method m : c.getDeclaredMethods()) {
            holds(m.getParameterCount() <= 7, m + " takes at most seven parameters");
        }
    }

    private static void source(Path folder) throws Exception {
        List<String> lines = Files.readAllLines(folder.resolve("src/main/java/SlopeChecker.java"));
        int begin = -1;
        for (int i = 0; i < lines.size(); i++) {
            String line = lines.get(i);
            String code = line.trim();
            boolean comment = code.startsWith("*") || code.startsWith("/*");
            for (String no : FORBIDDEN) {
                holds(comment || !code.contains(no), "line " + (i + 1) + " has no " + no);
            }
            holds(line.chars().allMatch(c -> c >= 32 && c < 127), "line " + (i + 1) + " has plain signs");
            holds(line.length() <= 125, "line " + (i + 1) + " is not too long");
            if (code.startsWith("import ")) {
                holds(code.equals("import java.util.NoSuchElementException;"), "line " + (i + 1) + " may be imported");
            }
            if (!comment && code.endsWith(") {") && line.matches(" {4}( {4})?\\w.*")
                && !code.matches("(for|if|while|switch|\\}).*")) {
                begin = i;
            }
            if (begin >= 0 && line.matches(" {4}( {4})?\\}")) {
                holds(i - begin <= 60, "the method at line " + (begin + 1) + " is short");
                begin = -1;
            }
        }
    }

    private static void feedAll(SlopeChecker x, String s) {
        for (int at = 0; at < s.length(); at += 20) {
            int[] a = new int[5];
            for (int i = 0; i < 20; i++) {
                a[i / 4] = a[i / 4] << 8 | (at + i < s.length() ? s.charAt(at + i) : ' ');
            }
            x.feed(a[0], a[1], a[2], a[3], a[4]);
        }
    }

    /** All calls of a run live in one room: nothing new may be made by a call. */
    private static void room() {
        com.sun.management.ThreadMXBean bean = (com.sun.management.ThreadMXBean) ManagementFactory.getThreadMXBean();
        long id = Thread.currentThread().getId();
        String s = "mode a 1 0;mode b 0 1;keep a 1 0 10;edge a b;when -1 0 -4;edge b a;when 0 -1 -6;put x 0;"
            + "start a 0 2 0 0;harm b 0 -1 -8;";
        long least = Long.MAX_VALUE;
        for (int i = 0; i < 50; i++) {
            SlopeChecker x = new SlopeChecker();
            feedAll(x, s);
            long ahead = bean.getThreadAllocatedBytes(id);
            allCalls(x, s.length());
            least = Math.min(least, bean.getThreadAllocatedBytes(id) - ahead);
        }
        holds(least < 200, "calls make nothing new, but made bytes: " + least);
        long ahead = bean.getThreadAllocatedBytes(id);
        SlopeChecker x = new SlopeChecker();
        long made = bean.getThreadAllocatedBytes(id) - ahead;
        holds(x.count(3) == 0 && made < 200000, "an object is small, but has bytes: " + made);
    }

    private static long allCalls(SlopeChecker x, int n) {
        long sum = x.text(n) + x.step(60) + x.check(0) + x.mode(0, 5) + x.edge(0, 0) + x.normal(0, 0) + x.normalOf(1, 0);
        sum += x.part(1, 8) + x.limit(1, 1, 0, 0) + x.corner(1, 1, 0, 0) + x.has(0, 0, 0, 0, 1) + x.where(0, 0, 0, 1);
        sum += x.within(0, 1) + x.meets(0, 1, 0, 3) + x.way(2) + x.onWay(2, 0, 0) + x.wayTime(2, 0);
        sum += x.ride(0, 0, 0, 1, 30) + x.ridden(1, 0) + x.ended() + x.followed() + x.ifStart(0, 1, 0, 1, 60, 0);
        sum += x.ifMost(1, 60, 0) + x.ifWithout(0, 60, 0) + x.blamed(60) + x.count(0) + x.fault(0) + x.text(0);
        return sum;
    }

    public static void main(String[] args) throws Exception {
        face();
        fields(SlopeChecker.class);
        for (Class<?> inner : SlopeChecker.class.getDeclaredClasses()) {
            fields(inner);
        }
        source(Path.of(args.length > 0 ? args[0] : "."));
        room();
        System.out.println(asked + " asked, " + wrong + " wrong");
        if (wrong != 0) {
            System.exit(1);
        }
    }
}
