import java.io.IOException;
import java.lang.reflect.InvocationTargetException;
import java.net.URL;
import java.net.URLClassLoader;
import java.nio.file.Files;
import java.nio.file.Path;
import java.util.ArrayList;
import java.util.List;
import java.util.regex.Matcher;
import java.util.regex.Pattern;
import java.util.stream.Stream;
import javax.tools.ToolProvider;

/** README.md as written: its lines of Java answer what their comments say, and it names each test. */
public final class ReadmeHolds {
    private static final Path README = Path.of("README.md");
    private static final Path TESTS = Path.of("src/test/java");
    private static final Pattern BLOCK = Pattern.compile("(?s)```java\n(.*?)```");
    private static final Pattern LINE = Pattern.compile("(?:int (\\w+) = )?(.*?);\\s*// (-?\\d+|true|false)(?::.*)?");

    private static int wrong = 0;

    private static void fault(String what) {
        wrong++;
        System.out.println("README.md: " + what);
    }

    private static List<String> linesOfJava(String readme) {
        List<String> lines = new ArrayList<>();
        Matcher block = BLOCK.matcher(readme);
        while (block.find()) {
            lines.addAll(block.group(1).lines().toList());
        }
        return lines;
    }

    /** The lines as a class whose method run() answers how many of them are not as they say. */
    private static String asClass(List<String> lines) {
        StringBuilder code = new StringBuilder("public final class ReadmeLines {\n"
            + "    static int wrong = 0;\n"
            + "    static void due(String line, Object got, Object want) {\n"
            + "        if (!got.equals(want)) {\n"
            + "            wrong++;\n"
            + "            System.out.println(\"README.md: \" + line + \" answered \" + got);\n"
            + "        }\n"
            + "    }\n"
            + "    public static int run() {\n");
        for (String line : lines) {
            Matcher answer = LINE.matcher(line);
            boolean asked = answer.matches();
            boolean named = asked && answer.group(1) != null;
            if (!asked || named) {
                code.append(line).append('\n');
            }
            if (asked) {
                String quoted = line.replace("\\", "\\\\").replace("\"", "\\\"");
                code.append("due(\"").append(quoted).append("\", ").append(named ? answer.group(1) : answer.group(2))
                    .append(", ").append(answer.group(3)).append(");\n");
            }
        }
        return code.append("        return wrong;\n    }\n}\n").toString();
    }

    private static int run(String code) throws IOException, ReflectiveOperationException {
        Path place = Files.createTempDirectory("readme");
        Path source = place.resolve("ReadmeLines.java");
        Path compiled = place.resolve("ReadmeLines.class");
        try {
            Files.writeString(source, code);
            int faults = ToolProvider.getSystemJavaCompiler().run(null, null, null,
                "-cp", System.getProperty("java.class.path"), "-d", place.toString(), source.toString());
            if (faults != 0) {
                fault("its lines of Java can't be compiled");
                return 0;
            }
            try (URLClassLoader loader = new URLClassLoader(new URL[] {place.toUri().toURL()})) {
                return (int) loader.loadClass("ReadmeLines").getMethod("run").invoke(null);
            } catch (InvocationTargetException thrown) {
                fault("its lines threw " + thrown.getCause());
                return 0;
            }
        } finally {
            Files.deleteIfExists(source);
            Files.deleteIfExists(compiled);
            Files.deleteIfExists(place);
        }
    }

    private static void callsOfTheFace(List<String> lines) {
        String all = String.join("\n", lines);
        for (String call : new String[] {"feed", "custom", "islands", "man", "partners", "treasure", "give", "season",
            "dies", "lost", "known", "way", "closings", "closing", "soonest", "through", "look", "told", "debt", "quarrel",
            "count"}) {
            if (!all.contains("ring." + call + "(")) {
                fault("no line shows " + call);
            }
        }
    }

    private static void namesOfTests(String readme) throws IOException {
        try (Stream<Path> files = Files.list(TESTS)) {
            for (Path file : files.sorted().toList()) {
                String name = file.getFileName().toString().replace(".java", "");
                if (!readme.contains("`" + name + "`")) {
                    fault(name + " is not named");
                }
            }
        }
        Matcher item = Pattern.compile("(?m)^- ((?:`\\w+`,? ?)+)(?::|are no tests)").matcher(readme);
        while (item.find()) {
            for (String name : item.group(1).replaceAll("[`,]", " ").trim().split("\\s+")) {
                if (!Files.exists(TESTS.resolve(name + ".java"))) {
                    fault("there is no " + name);
                }
            }
        }
    }

    public static void main(String[] args) throws IOException, ReflectiveOperationException {
        String readme = Files.readString(README);
        List<String> lines = linesOfJava(readme);
        long answers = lines.stream().filter(line -> LINE.matcher(line).matches()).count();
        if (answers < 30) {
            fault("only " + answers + " lines tell their answers");
        }
        wrong += run(asClass(lines));
        callsOfTheFace(lines);
        namesOfTests(readme);
        System.out.println(answers + " lines with answers, " + wrong + " faults");
        if (wrong != 0) {
            System.exit(1);
        }
    }
}
