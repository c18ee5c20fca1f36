import java.io.IOException;
import java.lang.reflect.Method;
import java.nio.file.Files;
import java.nio.file.Path;
import java.util.List;
import java.util.regex.Matcher;
import java.util.regex.Pattern;

/** What of ../shared/LANGUAGE.md can be seen in the source's lines; run in the project's folder. */
public final class LanguageTest {
    private static final Path SOURCE = Path.of("src/main/java/ToOneCrumb.java");
    private static final int LONGEST_METHOD = 60;

    public static void main(String[] args) throws IOException {
        List<String> lines = Files.readAllLines(SOURCE);
        String code = withoutComments(String.join("\n", lines));
        forbiddenWords(code);
        imports(lines);
        lengths(lines);
        members();
        Check.finish("LanguageTest");
    }

    private static String withoutComments(String source) {
        return source.replaceAll("(?s)/\\*.*?\\*/", "").replaceAll("//[^\n]*", "");
    }

    private static void forbiddenWords(String code) {
        String[] words = {"->", "::", "\\btry\\b", "\\bcatch\\b", "\\bfinally\\b", "\\bassert\\b", "\\bsynchronized\\b",
            "static \\{", "\\bdouble\\b", "\\bfloat\\b", "Exact\\(", "\\bvar\\b", "\\bObject\\b", "\\bString\\b",
            "\\.equals\\(", "hashCode", "toString", "\\bSystem\\.(?!arraycopy)", "\\bThread\\b", "\\bRandom\\b",
            "\"\\s*\\+", "\\+\\s*\"", "^package", "boolean\\[\\]",
            // rule 12: a constructor hands out nothing of what it makes
            "= new [A-Z]\\w*\\([^)]"};
        for (String word : words) {
            Check.due("rules 2 to 13: " + word, Pattern.compile(word).matcher(code).find(), false);
        }
        Matcher thrown = Pattern.compile("throw new (\\w+)\\(\"[^\"]*\"\\);").matcher(code);
        int many = 0;
        while (thrown.find()) {
            many++;
            Check.due("rule 6: " + thrown.group(1), thrown.group(1).equals("NoSuchElementException"), true);
        }
        Check.due("rule 6: each throw is of that form", Pattern.compile("\\bthrow\\b").matcher(code).results().count(), many);
    }

    private static void imports(List<String> lines) {
        for (String line : lines) {
            if (line.startsWith("import ")) {
                boolean allowed = line.equals("import java.util.Arrays;")
                        || line.equals("import java.util.NoSuchElementException;");
                Check.due("rule 4: " + line, allowed, true);
            }
        }
    }

    private static void lengths(List<String> lines) {
        int start = -1;
        for (int n = 0; n < lines.size(); n++) {
            String line = lines.get(n);
            boolean opens = line.matches("( {4}| {8})[A-Za-z].*\\) (throws \\w+ )?\\{") && !line.contains(" class ");
            if (opens && !line.matches("\\s*(if|for|while|switch) .*")) {
                start = n;
            } else if (start >= 0 && line.matches(" {4}\\}| {8}\\}")) {
                Check.due("rule 11: lines of " + lines.get(start).trim(), n - start <= LONGEST_METHOD, true);
                start = -1;
            }
        }
    }

    private static void members() {
        members(ToOneCrumb.class);
        for (Class<?> inside : ToOneCrumb.class.getDeclaredClasses()) {
            members(inside);
        }
    }

    private static void members(Class<?> type) {
        for (Method method : type.getDeclaredMethods()) {
            Check.due("rule 11: arguments of " + method, method.getParameterCount() <= 7, true);
        }
        long fields = java.util.Arrays.stream(type.getDeclaredFields())
                .filter(field -> !java.lang.reflect.Modifier.isStatic(field.getModifiers())).count();
        Check.due("rule 11: fields of " + type, fields <= 20, true);
    }
}
