import java.lang.reflect.Method;
import java.lang.reflect.Modifier;
import java.net.URL;
import java.net.URLClassLoader;
import java.nio.file.Files;
import java.nio.file.Path;
import java.util.Comparator;
import java.util.List;
import java.util.regex.Matcher;
import java.util.regex.Pattern;
import java.util.stream.Stream;
import javax.tools.ToolProvider;

/** The program of README.md, put together from its java blocks, answers as the page says. */
public final class ReadmeTest {
    private static final Pattern BLOCK = Pattern.compile("(?s)```java\n(.*?)```");
    private static final Pattern ASKED = Pattern.compile("(?:int (\\w+) = )?(x\\.\\w+\\(.*\\)); +// (-?\\d+)(?::.*)?");

    private static String page, body = "", members = "";
    private static int asked = 0;

    private static void take(String block) {
        if (block.startsWith("static ")) {
            members += block;
            return;
        }
        for (String row : block.split("\n")) {
            Matcher m = ASKED.matcher(row);
            if (!m.matches()) {
                body += row + "\n";
                continue;
            }
            asked++;
            String call = m.group(2);
            String answer = "a" + asked;
            body += "long " + answer + " = " + call + ";\n";
            if (m.group(1) != null) body += "int " + m.group(1) + " = (int) " + answer + ";\n";
            body += "due(\"" + call + "\", " + answer + ", " + m.group(3) + "L);\n";
        }
    }

    private static String program() {
        return "public final class Readme {\n"
            + "static int wrong = 0;\n"
            + "static void due(String call, long got, long want) {\n"
            + "if (got != want) { wrong++; System.out.println(\"README: \" + call + \" answered \" + got + \", not \" + want); }\n"
            + "}\n" + members
            + "public static int check() {\n" + body + "return wrong;\n}\n}\n";
    }

    private static int run(Path room) throws Exception {
        Path file = room.resolve("Readme.java");
        Files.writeString(file, program());
        int failed = ToolProvider.getSystemJavaCompiler().run(null, null, null, "-cp",
            System.getProperty("java.class.path"), "-d", room.toString(), file.toString());
        if (failed != 0) return 1;
        try (URLClassLoader loader = new URLClassLoader(new URL[] {room.toUri().toURL()})) {
            return (int) loader.loadClass("Readme").getMethod("check").invoke(null);
        }
    }

    private static int missing() {
        int many = 0;
        for (Method m : EvenSides.class.getDeclaredMethods()) {
            if (!Modifier.isPublic(m.getModifiers()) || (members + body).contains("x." + m.getName() + "(")) continue;
            many++;
            System.out.println("README does not use " + m.getName());
        }
        return many;
    }

    private static void remove(Path room) throws Exception {
        try (Stream<Path> all = Files.walk(room)) {
            List<Path> deepestFirst = all.sorted(Comparator.reverseOrder()).toList();
            for (Path p : deepestFirst) Files.delete(p);
        }
    }

    public static void main(String[] args) throws Exception {
        page = Files.readString(Path.of("README.md"));
        Matcher blocks = BLOCK.matcher(page);
        while (blocks.find()) take(blocks.group(1));
        Path room = Files.createTempDirectory("readme");
        int wrong = run(room) + missing();
        remove(room);
        if (asked < 60) {
            wrong++;
            System.out.println("README has only " + asked + " answers");
        }
        System.out.println(wrong == 0 ? "README holds in " + asked + " answers" : wrong + " faults of README");
        if (wrong != 0) System.exit(1);
    }
}
