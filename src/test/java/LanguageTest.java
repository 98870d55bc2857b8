import java.lang.reflect.Constructor;
import java.lang.reflect.Field;
import java.lang.reflect.Method;
import java.lang.reflect.Modifier;
import java.nio.file.Files;
import java.nio.file.Path;
import java.util.ArrayList;
import java.util.Collections;
import java.util.HashSet;
import java.util.List;
import java.util.Set;

/** The face of the class, what LANGUAGE.md rules out, and what a run of calls makes. */
public final class LanguageTest {
    private static final List<String> FACE = List.of(
            "int add(int,int) Index Argument State",
            "int append(int) Argument State",
            "int bestWidth()",
            "int block(int,int,int) Index Argument",
            "int clearBuffer()",
            "int combine(int,int,int,int) Index Argument State",
            "int count(int) Argument",
            "int dearest(int,int) Index Argument",
            "long digest()",
            "int firstError()",
            "int has(int,int) Index Argument",
            "int ifAdded(int,int) Index Argument",
            "int ifSet(int,int,int) Index Argument",
            "int leaps(int,int,int) Index Argument",
            "int less(int,int) Index Argument",
            "int member(int,int) Index Argument",
            "int nearest(int,int) Index Argument",
            "int of(int,int) Index Argument",
            "int read(int) Index Argument State",
            "int remove(int,int) Index Argument",
            "int removeRange(int,int,int) Index Argument",
            "int set(int,int) Index Argument",
            "int setting(int) Index",
            "int shift(int,int) Index Argument State",
            "double smallness()",
            "int undo() State");

    private LanguageTest() {
    }

    public static void main(String[] args) throws Exception {
        face();
        names();
        staticFields();
        source();
        room();
        Check.end();
    }

    private static void face() {
        Check.part("rule 1");
        List<String> open = new ArrayList<>();
        for (Method m : GapSets.class.getDeclaredMethods()) {
            if (!Modifier.isPrivate(m.getModifiers())) {
                Check.same(m.getName() + " is public", Modifier.toString(m.getModifiers()), "public");
                open.add(textOf(m));
            }
        }
        List<String> want = new ArrayList<>(FACE);
        Collections.sort(open);
        Collections.sort(want);
        Check.same("the face", open, want);
        for (Field f : GapSets.class.getDeclaredFields()) {
            boolean isNone = f.getName().equals("NONE");
            Check.same(f.getName() + " is private", Modifier.isPrivate(f.getModifiers()), !isNone);
        }
        Constructor<?>[] made = GapSets.class.getDeclaredConstructors();
        Check.same("constructors", made.length, 1);
        Check.same("constructor", made[0].toString(), "public GapSets()");
        Check.same("class", Modifier.toString(GapSets.class.getModifiers()), "public final");
    }

    private static String textOf(Method m) {
        StringBuilder text = new StringBuilder(m.getReturnType() + " " + m.getName() + "(");
        for (Class<?> type : m.getParameterTypes()) {
            text.append(text.charAt(text.length() - 1) == '(' ? "" : ",").append(type);
        }
        text.append(")");
        for (Class<?> thrown : m.getExceptionTypes()) {
            String name = thrown.getSimpleName();
            text.append(name.startsWith("Index") ? " Index" : name.contains("Argument") ? " Argument" : " State");
        }
        return text.toString();
    }

    private static void names() {
        Check.part("rules 1, 11");
        Set<String> publicNames = new HashSet<>();
        for (Method m : GapSets.class.getMethods()) {
            publicNames.add(m.getName());
        }
        Class<?>[] inside = GapSets.class.getDeclaredClasses();
        Check.same("at most twelve classes", inside.length < 12, true);
        for (Class<?> c : inside) {
            Check.same(c.getName() + " is static", Modifier.isStatic(c.getModifiers()), true);
            Check.same(c.getName() + "'s fields", c.getDeclaredFields().length <= 20, true);
            for (Method m : c.getDeclaredMethods()) {
                Check.same(m + " has a name of its own", publicNames.contains(m.getName()), false);
                Check.same(m + " takes at most seven", m.getParameterCount() <= 7, true);
            }
        }
        for (Method m : GapSets.class.getDeclaredMethods()) {
            boolean isPrivate = Modifier.isPrivate(m.getModifiers());
            Check.same(m + " has a name of its own", isPrivate && publicNames.contains(m.getName()), false);
        }
    }

    private static void staticFields() {
        Check.part("rule 5");
        List<Class<?>> all = new ArrayList<>(List.of(GapSets.class.getDeclaredClasses()));
        all.add(GapSets.class);
        for (Class<?> c : all) {
            for (Field f : c.getDeclaredFields()) {
                int is = f.getModifiers();
                Check.same(f + " is final", Modifier.isStatic(is) && !Modifier.isFinal(is), false);
            }
        }
    }

    private static void source() throws Exception {
        Check.part("rules 3, 4, 6, 8");
        String text = Files.readString(Path.of("src/main/java/GapSets.java"));
        String code = text.replaceAll("(?s)/\\*.*?\\*/", "").replaceAll("//[^\n]*", "")
                .replaceAll("\"[^\"\n]*\"", "\"\"");
        String[] out = {"\\bimport\\b", "\\bpackage\\b", "\\btry\\b", "\\bcatch\\b", "\\bfinally\\b", "->", "::",
            "\\bDouble\\b", "\\bObject\\b", "\\bSystem\\b", "Exact\\b", "\\bassert\\b", "\\bsynchronized\\b",
            "\\bprotected\\b", "\\bequals\\b", "\\bhashCode\\b", "\\btoString\\b", "\\blambda\\b", "\"\"\\s*\\+",
            "\\+\\s*\"\"", "\\bwhile\\s*\\(", "\\binstanceof\\b", "\\bthrow\\s+(?!new\\b)"};
        for (String pattern : out) {
            boolean found = java.util.regex.Pattern.compile(pattern).matcher(code).find();
            Check.same("the source has " + pattern, found, false);
        }
        Check.same("signs", text.chars().allMatch(c -> c < 127 && c != '\t'), true);
    }

    /** Full sets, and then the dearest calls: no call may make anything. */
    private static void room() {
        Check.part("the room");
        GapSets x = new GapSets();
        for (int set = 0; set < 4; set++) {
            for (int n = 0; n < 60; n++) {
                x.add(set, n * (n + 7 + set));
            }
        }
        var bean = (com.sun.management.ThreadMXBean) java.lang.management.ManagementFactory.getThreadMXBean();
        long sum = x.digest() + x.bestWidth();
        long before = bean.getCurrentThreadAllocatedBytes();
        for (int call = 0; call < 200; call++) {
            sum += x.digest() + x.combine(3, 0, 1, 1) + x.remove(2, 8) + x.undo() + x.undo();
        }
        long bytes = bean.getCurrentThreadAllocatedBytes() - before;
        Check.same("200 digests and changes make under 64 KB (" + bytes + ")", bytes < 65536, true);
        Check.same("the sum is used", sum == 0, false);
    }
}
