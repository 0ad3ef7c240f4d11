import java.lang.management.ManagementFactory;
import java.lang.reflect.Constructor;
import java.lang.reflect.Field;
import java.lang.reflect.Method;
import java.lang.reflect.Modifier;
import java.nio.file.Files;
import java.nio.file.Path;
import java.util.HashSet;
import java.util.Set;
import java.util.TreeSet;
import java.util.regex.Pattern;

/** The face of the document and no more; the rules of LANGUAGE.md that can be seen; what calls make. */
public final class FaceTest {
    private static final String[] FACE = {
        "int variables(int)", "int form()", "int term(int, int, int, int)", "long value(int, int, int, int, int)",
        "int plain(int)", "int prove(int)", "int under(int, int, int)", "int told(int)", "long weight(int, int)",
        "long line(int, int, int)", "long point(int, int)", "long near(int)", "int plant(int, long, long)",
        "int check()", "int equal()", "long pivot(long, long)", "int count(int)"};
    private static final String[] NOT_THERE = {
        "->", "::", "\\w+Exact\\b", "\\bDouble\\b", "\\bFloat\\b", "\\b(try|catch|finally|throws?|assert|synchronized)\\b",
        "static\\s*\\{", "\\b(Random|Thread|System\\.(nanoTime|currentTimeMillis|getenv|out|err|in))\\b",
        "\\bimport (?!java\\.util\\.Arrays;)", "\\bpackage\\b", "\\b(equals|hashCode|toString)\\b", "while\\s*\\(\\s*true"};
    private static int wrong = 0;

    private static void due(String what, boolean holds) {
        if (!holds) {
            wrong++;
            System.out.println("not so: " + what);
        }
    }

    private static String shape(Method m) {
        StringBuilder text = new StringBuilder(m.getReturnType().getSimpleName() + " " + m.getName() + "(");
        for (Class<?> type : m.getParameterTypes()) {
            text.append(text.charAt(text.length() - 1) == '(' ? "" : ", ").append(type.getSimpleName());
        }
        return text + ")";
    }

    private static void face() throws Exception {
        Class<?> c = SquareSums.class;
        due("public final", Modifier.isPublic(c.getModifiers()) && Modifier.isFinal(c.getModifiers()));
        Set<String> visible = new TreeSet<>();
        Set<String> names = new HashSet<>();
        for (Method m : c.getDeclaredMethods()) {
            if (!Modifier.isPrivate(m.getModifiers()) && !m.isSynthetic()) {
                visible.add(shape(m));
                names.add(m.getName());
                due("public and no static: " + m, Modifier.isPublic(m.getModifiers()) && !Modifier.isStatic(m.getModifiers()));
            }
        }
        due("the methods are " + visible, visible.equals(new TreeSet<>(Set.of(FACE))));
        for (Method m : c.getDeclaredMethods()) {
            due("a private method is named " + m.getName(), !Modifier.isPrivate(m.getModifiers()) || !names.contains(m.getName()));
        }
        Set<String> constants = new TreeSet<>();
        for (Field f : c.getDeclaredFields()) {
            due("a static field is final: " + f, !Modifier.isStatic(f.getModifiers()) || Modifier.isFinal(f.getModifiers()));
            if (!Modifier.isPrivate(f.getModifiers())) {
                constants.add(f.getType() + " " + f.getName() + " " + f.get(null));
            }
        }
        due("the constants are " + constants, constants.equals(Set.of("int BAD -1", "int STATE -2", "int FULL -3", "int LONG -30")));
        Constructor<?>[] made = c.getDeclaredConstructors();
        due("one public constructor", made.length == 1 && made[0].getParameterCount() == 0 && Modifier.isPublic(made[0].getModifiers()));
        for (Class<?> inside : c.getDeclaredClasses()) {
            due(inside + " is static, not public", Modifier.isStatic(inside.getModifiers()) && !Modifier.isPublic(inside.getModifiers()));
        }
    }

    private static void language(String source) throws Exception {
        String text = Files.readString(Path.of(source));
        for (int k = 0; k < text.length(); k++) {
            due("sign " + k + " of the source is plain", text.charAt(k) < 128);
        }
        String code = text.replaceAll("(?s)/\\*.*?\\*/", "").replaceAll("//[^\n]*", "");
        for (String pattern : NOT_THERE) {
            due("the source has no " + pattern, !Pattern.compile(pattern).matcher(code).find());
        }
    }

    private static SquareSums filled() {
        SquareSums x = new SquareSums();
        x.variables(4);
        for (int f = 0; f < 12; f++) {
            x.form();
            for (int i = 0; i <= 4; i++) {
                for (int j = i; j <= 4; j++) {
                    x.term(f, i, j, i == j ? 7000 - f : (i * 31 + j * 17 + f * 7) % 23 - 11);
                }
            }
        }
        x.term(0, 0, 1, 9999);
        x.term(0, 0, 0, 1);
        return x;
    }

    private static long allCalls(SquareSums x) {
        long sum = 0;
        for (int f = 0; f < 12; f++) {
            sum += x.prove(f) + x.check() + x.equal() + x.plain(f) + x.near(0) + x.weight(0, 0) + x.line(0, 0, 0);
            sum += x.under(0, f, 20) + x.told(0) + x.point(1, 0) + x.plant(0, 3, 6) + x.value(f, 1, 2, 3, 4) + x.count(1);
        }
        return sum;
    }

    private static void room() {
        com.sun.management.ThreadMXBean bean = (com.sun.management.ThreadMXBean) ManagementFactory.getThreadMXBean();
        long thread = Thread.currentThread().getId();
        SquareSums x = filled();
        allCalls(x);
        long before = bean.getThreadAllocatedBytes(thread);
        allCalls(x);
        long between = bean.getThreadAllocatedBytes(thread);
        SquareSums y = new SquareSums();
        long after = bean.getThreadAllocatedBytes(thread);
        System.out.println("calls made " + (between - before) + " bytes, a new object " + (after - between));
        due("calls make no objects", between - before < 2000);
        due("a new object is small", after - between < 40000 && y.count(0) == 2);
    }

    public static void main(String[] args) throws Exception {
        face();
        language(args[0]);
        room();
        System.out.println(wrong == 0 ? "the face and the language are as due" : wrong + " not as due");
        if (wrong != 0) {
            System.exit(1);
        }
    }
}
