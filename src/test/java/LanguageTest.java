import java.io.IOException;
import java.nio.file.Files;
import java.nio.file.Path;
import java.util.Set;
import java.util.regex.Matcher;
import java.util.regex.Pattern;

/**
 * What can be seen in the source's text of the rules of LANGUAGE.md, and no catch at all: the class needs none. Run it
 * in the project's folder.
 */
public final class LanguageTest {
    private static final Path SOURCE = Path.of("src/main/java/PlankUnroll.java");
    private static final int MOST_LINES = 60;
    private static final String[] NEVER = {
        "->", "::", "\\bpackage\\b", "\\bfinally\\b", "\\bcatch\\b", "\\btry\\b", "\\bsynchronized\\b", "\\bassert\\b",
        "\\bvolatile\\b", "\\btransient\\b", "\\bnative\\b", "\\bimport\\s+static\\b", "\\bimport\\s[^;]*\\*",
        "\\bThread\\b", "\\bRuntime\\b", "\\bRandom\\b", "\\bDouble\\b", "\\bFloat\\b", "\\bObject\\b", "@",
        "\\.(equals|hashCode|toString|getMessage|getClass|stream|forEach)\\b", "\\bSystem\\.(?!arraycopy\\b)",
        "\\bstatic\\s*\\{", "\\w+Exact\\b", "\\bwhile\\s*\\(\\s*true\\b", "\\bvar\\b", "\"\\s*\\+", "\\+\\s*\""
    };
    private static final Set<String> EXCEPTIONS = Set.of("IllegalStateException", "IllegalArgumentException",
        "IndexOutOfBoundsException");
    private static final Set<String> OF_MATH = Set.of("compare", "max", "min", "abs", "floorDiv", "floorMod");
    private static final Set<String> IMPORTS = Set.of("java.util.ArrayList", "java.util.List", "java.util.Arrays");

    public static void main(String[] args) throws IOException {
        String told = Files.readString(SOURCE);
        Due.same("characters 0 to 255", true, told.chars().allMatch(c -> c < 256));
        String code = told.replaceAll("(?s)/\\*.*?\\*/", "").replaceAll("//[^\n]*", "")
            .replaceAll("\"[^\"\n]*\"", "\"\"");
        for (String never : NEVER) {
            Matcher found = Pattern.compile(never).matcher(code);
            Due.same("there is no " + never, "nothing", found.find() ? found.group() : "nothing");
        }
        allOf("throw (?:new )?(\\w+)", code, EXCEPTIONS);
        allOf("\\bMath\\.(\\w+)", code, OF_MATH);
        allOf("\\bimport ([\\w.]+)", code, IMPORTS);
        lengths(told.split("\n"));
        Due.end("LanguageTest");
    }

    private static void allOf(String pattern, String code, Set<String> allowed) {
        Matcher found = Pattern.compile(pattern).matcher(code);
        while (found.find()) {
            Due.same(found.group() + " is allowed", true, allowed.contains(found.group(1)));
        }
    }

    /** A method begins with a line that ends in { and closes at the same depth of spaces. */
    private static void lengths(String[] lines) {
        for (int from = 0; from < lines.length; from++) {
            String line = lines[from];
            if (!line.matches(" {4,8}\\w.*\\) ?(throws .*)?\\{") && !line.matches(" {8,16}throws .*\\{")) {
                continue;
            }
            int to = from;
            while (to < lines.length && !lines[to].matches(" {4,8}\\}")) {
                to++;
            }
            Due.same("line " + (from + 1) + " begins a short method", true, to - from <= MOST_LINES);
        }
    }
}
