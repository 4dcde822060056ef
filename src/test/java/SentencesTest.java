import java.io.IOException;
import java.nio.file.Files;
import java.nio.file.Path;
import java.util.regex.Matcher;
import java.util.regex.Pattern;

/**
 * src/test/SENTENCES.md names tests that are there, and sentences that the document has, in its turn. Run it in the
 * project's folder.
 */
public final class SentencesTest {
    private static final Path SENTENCES = Path.of("src/test/SENTENCES.md");
    private static final Path DOCUMENT = Path.of("../shared/DOC.md");
    private static final String LEFT_OUT = "[..]";
    private static final Pattern ROW = Pattern.compile("\\| (?:(\\d+) \\| )?(.*) \\| (`.*`) \\|");
    private static final Pattern NAME = Pattern.compile("`(?:([A-Z]\\w+)\\.?)?(\\w+)?`");

    private final String document;
    private int readTo;
    private String test = "";

    private SentencesTest(String document) {
        this.document = document;
    }

    public static void main(String[] args) throws IOException {
        boolean there = Files.exists(DOCUMENT);
        if (!there) {
            System.out.println("SentencesTest: no " + DOCUMENT + ", only the tests' names are looked at");
        }
        SentencesTest all = new SentencesTest(there ? Files.readString(DOCUMENT) : "");
        int rows = 0;
        for (String line : Files.readAllLines(SENTENCES)) {
            Matcher row = ROW.matcher(line);
            if (row.matches()) {
                rows++;
                all.tests(row.group(3));
                if (there) {
                    all.promise(row.group(1));
                    all.sentence(row.group(2));
                }
            }
        }
        Due.same("some sentences have tests", true, rows > 70);
        Due.end("SentencesTest");
    }

    /** A row of a promise is looked for in that promise's section, or behind what was found there before. */
    private void promise(String number) {
        if (number != null) {
            int section = document.indexOf("## Promise " + number + ":");
            Due.same("the document has promise " + number, true, section >= 0);
            readTo = Math.max(readTo, section);
        }
    }

    private void sentence(String told) {
        for (String part : told.split(Pattern.quote(LEFT_OUT))) {
            int at = document.indexOf(part.strip(), readTo);
            Due.same("the document says, in its turn: " + part.strip(), true, at >= 0);
            readTo = at >= 0 ? at + part.strip().length() : readTo;
        }
    }

    private void tests(String told) throws IOException {
        Matcher names = NAME.matcher(told);
        while (names.find()) {
            test = names.group(1) == null ? test : names.group(1);
            String method = names.group(2) == null ? "main" : names.group(2);
            Due.same("there is the test " + test + "." + method, true, isThere(test, method));
        }
    }

    /** Looked for in the source: the other tests are not compiled together with this one. */
    private static boolean isThere(String test, String method) throws IOException {
        Path source = Path.of("src/test/java", test + ".java");
        return Files.exists(source) && Files.readString(source).contains(" " + method + "(");
    }
}
