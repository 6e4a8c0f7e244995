import java.nio.charset.StandardCharsets;
import java.nio.file.Files;
import java.nio.file.Path;
import java.util.regex.Matcher;
import java.util.regex.Pattern;

/** What can be seen of LANGUAGE.md in the text of the file (run from the project's root). */
public final class LanguageTest {
    private static final String FILE = "src/main/java/EvenSides.java";
    private static final String[] NEVER = {"throw", "throws", "try", "catch", "finally", "synchronized", "assert",
        "package", "native", "volatile", "transient", "var", "yield", "protected", "Object", "Exception"};

    private static int wrong = 0;

    private static void check(boolean right, String what) {
        if (right) return;
        wrong++;
        System.out.println("wrong: " + what);
    }

    /** The code alone: comments, texts and characters are taken out, lines stay. */
    private static String code(String file) {
        Matcher m = Pattern.compile("//[^\n]*|/\\*.*?\\*/|\"[^\"\n]*\"|'[^'\n]*'", Pattern.DOTALL).matcher(file);
        return m.replaceAll(r -> r.group().replaceAll("[^\n]", " "));
    }

    private static boolean has(String code, String pattern) {
        return Pattern.compile(pattern).matcher(code).find();
    }

    private static void checkWords(String code) {
        for (String word : NEVER) check(!has(code, "\\b" + word + "\\b"), "the word " + word);
        check(!has(code, "->|::"), "a lambda or a method reference");
        check(!has(code, "\\bstatic\\s*\\{"), "a static initialiser");
        check(!has(code, "\\bstatic\\s+(?!final\\b)[\\w\\[\\]]+\\s+\\w+\\s*[=;]"), "static state");
        check(!has(code, "\\]\\s*\\[\\s*\\]\\s*\\["), "an array of three dimensions");
        check(!has(code, "\\bclass\\s+\\w+") || !has(code, "(?<!static final |public final )\\bclass\\s+\\w"),
            "a class inside that is not static");
    }

    /** No method of the file's own has a public one's name, or more than seven parameters. */
    private static void checkMethods(String code) {
        Matcher face = Pattern.compile("\\bpublic \\w+ (\\w+)\\(").matcher(code);
        StringBuilder names = new StringBuilder("none");
        while (face.find()) names.append('|').append(face.group(1));
        Matcher own = Pattern.compile("\n ++(?!public|return|else|new)[\\w\\[\\] ]+ (\\w+)\\(([^)]*)\\) \\{").matcher(code);
        int methods = 0;
        while (own.find()) {
            methods++;
            check(!own.group(1).matches(names.toString()), "a method named as a public one: " + own.group(1));
            check(own.group(2).split(",").length <= 7, "more than seven parameters: " + own.group(1));
        }
        check(methods > 50, "methods were found");
        Matcher classes = Pattern.compile("\\b(class|record|enum|interface)\\s+\\w+").matcher(code);
        int many = 0;
        while (classes.find()) many++;
        check(many <= 12, many + " classes");
    }

    private static void checkImports(String code) {
        Matcher m = Pattern.compile("import\\s+([^;]+);").matcher(code);
        while (m.find()) {
            check(m.group(1).matches("java\\.util\\.(Arrays|ArrayList|List|Iterator)"), "import of " + m.group(1));
        }
        Matcher library = Pattern.compile("\\b(Arrays|Math|System|Integer)\\.(\\w+)").matcher(code);
        while (library.find()) {
            check(library.group(2).matches("fill|arraycopy|max|min|abs|bitCount"), library.group());
        }
    }

    private static void checkLengths(String code) {
        String[] lines = code.split("\n");
        int begin = -1;
        String end = "";
        for (int i = 0; i < lines.length; i++) {
            if (begin < 0 && lines[i].matches("\\s+[\\w\\[\\] ]+\\([^;]*\\{\\s*") && !lines[i].matches("\\s+(if|for|while|switch|do|else)\\b.*")) {
                begin = i;
                end = lines[i].replaceAll("\\S.*", "") + "}";
            } else if (begin >= 0 && lines[i].stripTrailing().equals(end)) {
                check(i - begin <= 60, "a method of " + (i - begin) + " lines at " + (begin + 1));
                begin = -1;
            }
        }
    }

    public static void main(String[] args) throws Exception {
        String file = Files.readString(Path.of(FILE), StandardCharsets.ISO_8859_1);
        check(!has(file, "[^\n -~]"), "a sign that is not 32 to 126");
        String code = code(file);
        checkWords(code);
        checkMethods(code);
        checkImports(code);
        checkLengths(code);
        System.out.println(wrong == 0 ? "the file keeps to the language" : wrong + " faults of the language");
        if (wrong != 0) System.exit(1);
    }
}
