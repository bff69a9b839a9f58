import java.lang.reflect.Method;
import java.lang.reflect.Modifier;
import java.net.URL;
import java.net.URLClassLoader;
import java.nio.file.DirectoryStream;
import java.nio.file.Files;
import java.nio.file.Path;
import java.util.ArrayList;
import java.util.List;
import java.util.Set;
import java.util.TreeSet;
import java.util.regex.Matcher;
import java.util.regex.Pattern;
import javax.tools.ToolProvider;

/** README.md: its Java is compiled and run, and each call answers what stands behind it there. */
public final class ReadmeTest {
    /** A call with its answer: "int hall = clock.room();  // 0: why", the name and the reason left out or not. */
    private static final Pattern ANSWERED =
        Pattern.compile("(?:int (\\w+) = )?(clock\\..*\\)); +// (-?\\d+|[A-Z]+)(?:: .*)?");
    private static final Pattern ROW_OF_A_TEST = Pattern.compile("\\| `(\\w+Test)` \\|.*");
    private static final Check CHECK = new Check();

    public static void main(String[] args) throws Exception {
        List<String> lines = Files.readAllLines(Path.of("README.md"));
        List<List<String>> blocks = blocks(lines);
        CHECK.holds("README.md has Java to run", !blocks.isEmpty());
        for (int i = 0; i < blocks.size(); i++) {
            answersAsTold(blocks.get(i), "ReadmeBlock" + i);
        }
        namesEachCall(lines);
        namesEachTest(lines);
        CHECK.end();
    }

    private static List<List<String>> blocks(List<String> lines) {
        List<List<String>> blocks = new ArrayList<>();
        List<String> open = null;
        for (String line : lines) {
            if (line.equals("```java")) {
                open = new ArrayList<>();
                blocks.add(open);
            } else if (line.startsWith("```")) {
                open = null;
            } else if (open != null && !line.isBlank()) {
                open.add(line);
            }
        }
        return blocks;
    }

    private static void answersAsTold(List<String> block, String name) throws Exception {
        StringBuilder body = new StringBuilder();
        List<String> calls = new ArrayList<>();
        List<Integer> told = new ArrayList<>();
        for (String line : block) {
            Matcher m = ANSWERED.matcher(line);
            if (m.matches()) {
                String keeps = m.group(1) == null ? "" : "int " + m.group(1) + " = ";
                body.append(keeps).append("got[").append(calls.size()).append("] = ").append(m.group(2)).append(";\n");
                calls.add(m.group(2));
                told.add(number(m.group(3)));
            } else {
                CHECK.holds("README.md: an answer that is not read: " + line, !line.contains("//"));
                body.append(line).append('\n');
            }
        }
        int[] got = run(name, body.toString(), calls.size());
        for (int i = 0; i < calls.size(); i++) {
            CHECK.due("README.md, " + name + ", " + calls.get(i), got[i], told.get(i));
        }
        CHECK.holds("README.md, " + name + ": it shows answers", !calls.isEmpty());
    }

    /** A number, or a constant of the face by its name. */
    private static int number(String told) throws Exception {
        return told.matches("[A-Z]+") ? TurnClock.class.getField(told).getInt(null) : Integer.parseInt(told);
    }

    private static int[] run(String name, String body, int calls) throws Exception {
        Path folder = Files.createTempDirectory("readme");
        Path source = folder.resolve(name + ".java");
        Files.writeString(source, "public final class " + name + " {\npublic static int[] answers() {\n"
            + "int[] got = new int[" + calls + "];\n" + body + "return got;\n}\n}\n");
        int code = ToolProvider.getSystemJavaCompiler().run(null, null, null,
            "-cp", System.getProperty("java.class.path"), "-d", folder.toString(), source.toString());
        CHECK.due("README.md, " + name + ": javac", code, 0);
        Path made = folder.resolve(name + ".class");
        int[] got = code == 0 ? answers(folder, name) : new int[calls];
        Files.deleteIfExists(made);
        Files.delete(source);
        Files.delete(folder);
        return got;
    }

    private static int[] answers(Path folder, String name) throws Exception {
        try (URLClassLoader loader = new URLClassLoader(new URL[] {folder.toUri().toURL()})) {
            return (int[]) loader.loadClass(name).getMethod("answers").invoke(null);
        }
    }

    private static void namesEachCall(List<String> lines) {
        for (Method m : TurnClock.class.getDeclaredMethods()) {
            if (Modifier.isPublic(m.getModifiers())) {
                String name = "`" + m.getName() + "`";
                CHECK.holds("README.md names " + name, lines.stream().anyMatch(s -> s.startsWith("|") && s.contains(name)));
            }
        }
    }

    /** The table has each test of the project, and none that there is not. */
    private static void namesEachTest(List<String> lines) throws Exception {
        Set<String> there = new TreeSet<>();
        try (DirectoryStream<Path> files = Files.newDirectoryStream(Path.of("src/test/java"), "*Test.java")) {
            for (Path file : files) {
                there.add(file.getFileName().toString().replace(".java", ""));
            }
        }
        Set<String> named = new TreeSet<>();
        for (String line : lines) {
            Matcher m = ROW_OF_A_TEST.matcher(line);
            if (m.matches()) {
                named.add(m.group(1));
            }
        }
        CHECK.holds("README.md names " + named + ", there are " + there, named.equals(there));
    }
}
