import java.io.IOException;
import java.lang.reflect.Method;
import java.lang.reflect.Modifier;
import java.net.URL;
import java.net.URLClassLoader;
import java.nio.file.Files;
import java.nio.file.Path;
import java.util.ArrayList;
import java.util.List;
import java.util.TreeSet;
import java.util.concurrent.Callable;
import java.util.regex.Matcher;
import java.util.regex.Pattern;
import java.util.stream.Stream;

/** What README.md says of the use of the class and of its tests. */
public final class ReadmeTest {
    /** A call, and behind it what it answers: a number or an exception, and maybe words behind a colon. */
    private static final Pattern ANSWERED = Pattern.compile("(sets\\..*);\\s*// ([^:\\s]+)(:.*)?");
    private static final int COMMANDS = 2;

    private ReadmeTest() {
    }

    public static void main(String[] args) throws Exception {
        String readme = Files.readString(Path.of("README.md"));
        example(fenced(readme, "java"));
        commands(fenced(readme, "sh"));
        calls(readme);
        tests(readme);
        Check.end();
    }

    private static List<String> fenced(String readme, String language) {
        Matcher block = Pattern.compile("(?s)```" + language + "\n(.*?)```").matcher(readme);
        Check.same("README.md has a block of " + language, block.find(), true);
        return block.group(1).lines().toList();
    }

    // ---- use

    private static void example(List<String> lines) throws Exception {
        Check.part("README.md, the example");
        List<String> calls = new ArrayList<>();
        List<String> due = new ArrayList<>();
        StringBuilder body = new StringBuilder();
        for (String line : lines) {
            Matcher answered = ANSWERED.matcher(line);
            if (answered.matches()) {
                String answer = answered.group(2);
                calls.add(answered.group(1));
                due.add(answer.endsWith("Exception") ? "throws." + answer : answer);
                body.append("answer(() -> ").append(answered.group(1)).append(");\n");
            } else {
                Check.same("'" + line + "' is no call with an answer", line.contains("//"), false);
                body.append(line).append('\n');
            }
        }
        Check.same("there are calls", calls.size() >= 10, true);
        List<String> got = answersOf(body.toString());
        Check.same("all calls answer", got.size(), calls.size());
        for (int call = 0; call < Math.min(got.size(), calls.size()); call++) {
            Check.same(calls.get(call), got.get(call), due.get(call));
        }
    }

    private static List<String> answersOf(String body) throws Exception {
        String source = """
                public final class ReadmeExample implements java.util.concurrent.Callable<java.util.List<String>> {
                    private final java.util.List<String> answers = new java.util.ArrayList<>();
                    private void answer(java.util.concurrent.Callable<Object> call) {
                        try {
                            answers.add(String.valueOf(call.call()));
                        } catch (Exception e) {
                            answers.add("throws." + e.getClass().getSimpleName());
                        }
                    }
                    public java.util.List<String> call() {
                """ + body + "return answers;\n}\n}\n";
        Path made = Files.createTempDirectory("readme");
        try {
            Path file = Files.writeString(made.resolve("ReadmeExample.java"), source);
            // The javac that .ci/run needs as well: the java that runs this may come without a compiler.
            int end = new ProcessBuilder("javac", "-cp", System.getProperty("java.class.path"),
                    "-d", made.toString(), file.toString()).inheritIO().start().waitFor();
            Check.same("the example compiles", end, 0);
            return end == 0 ? run(made) : List.of();
        } finally {
            deleteAll(made);
        }
    }

    private static List<String> run(Path made) throws Exception {
        List<String> answers = new ArrayList<>();
        try (URLClassLoader loader = new URLClassLoader(new URL[] {made.toUri().toURL()})) {
            Object example = loader.loadClass("ReadmeExample").getConstructor().newInstance();
            for (Object answer : (List<?>) ((Callable<?>) example).call()) {
                answers.add(String.valueOf(answer));
            }
        }
        return answers;
    }

    private static void deleteAll(Path directory) throws IOException {
        try (Stream<Path> files = Files.list(directory)) {
            for (Path file : files.toList()) {
                Files.delete(file);
            }
        }
        Files.delete(directory);
    }

    private static void calls(String readme) {
        Check.part("README.md, the calls");
        TreeSet<String> face = new TreeSet<>();
        for (Method m : GapSets.class.getDeclaredMethods()) {
            if (Modifier.isPublic(m.getModifiers())) {
                face.add(m.getName());
            }
        }
        int from = readme.indexOf("- members:");
        int to = readme.indexOf("What to know:");
        Check.same("the calls stand in a list", from >= 0 && to > from, true);
        Check.same("the calls that are listed", quoted(readme.substring(from, to), "[a-z]\\w*"), face);
    }

    // ---- tests

    /** The words of the two commands: what they name has to be there. */
    private static void commands(List<String> lines) {
        Check.part("README.md, the commands");
        Check.same("commands", lines.size(), COMMANDS);
        Check.same("the one compiles", lines.get(0).matches(
                "javac -d (\\S+) src/main/java/GapSets.java src/test/java/\\*.java"), true);
        Matcher runs = Pattern.compile("java -cp \\S+ (\\w+)").matcher(lines.get(1));
        Check.same("the other runs", runs.matches(), true);
        Check.same("what it runs is there", Files.exists(testOf(runs.group(1))), true);
        Check.same(".ci/run is there", Files.isExecutable(Path.of(".ci/run")), true);
    }

    private static Path testOf(String name) {
        return Path.of("src/test/java", name + ".java");
    }

    private static void tests(String readme) throws IOException {
        Check.part("README.md, the tests");
        TreeSet<String> there = new TreeSet<>();
        try (Stream<Path> files = Files.list(Path.of("src/test/java"))) {
            for (Path file : files.toList()) {
                String name = file.getFileName().toString();
                if (name.endsWith("Test.java")) {
                    there.add(name.substring(0, name.length() - ".java".length()));
                }
            }
        }
        String part = readme.substring(readme.indexOf("## Tests"));
        Check.same("the tests that are named", quoted(part, "\\w+Test"), there);
    }

    private static TreeSet<String> quoted(String text, String name) {
        TreeSet<String> found = new TreeSet<>();
        Matcher names = Pattern.compile("`(" + name + ")`").matcher(text);
        while (names.find()) {
            found.add(names.group(1));
        }
        return found;
    }
}
