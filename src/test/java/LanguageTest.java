import java.io.IOException;
import java.nio.file.Files;
import java.nio.file.Path;
import java.util.ArrayList;
import java.util.List;
import java.util.Set;
import java.util.TreeSet;
import java.util.regex.Matcher;
import java.util.regex.Pattern;

/** Rules of the language that can be seen in the text of the class. */
public final class LanguageTest {
    private static final Checks CHECKS = new Checks("the language");
    private static final int MOST_LINES = 60;
    private static final int MOST_PARAMETERS = 7;
    private static final int MOST_CLASSES = 12;
    private static final String NOTHING = "[]";

    private final String source;

    private LanguageTest(String source) {
        this.source = source;
    }

    public static void main(String[] args) throws IOException {
        String all = Files.readString(Path.of("src/main/java/DigestStack.java"));
        LanguageTest test = new LanguageTest(withoutComments(all));
        test.usesNothingFromOutside();
        test.hasNoForbiddenWord();
        test.throwsWhatIsAllowed();
        test.staysSmall();
        CHECKS.end();
    }

    private static String withoutComments(String text) {
        return text.replaceAll("\"[^\"\n]*\"", "\"\"")
                .replaceAll("(?s)/\\*.*?\\*/", "")
                .replaceAll("//[^\n]*", "");
    }

    // Rule 4: the class needs no import, and of the library only what stands here.
    private void usesNothingFromOutside() {
        due("imports and packages", NOTHING, found("(?m)^\\s*(?:import|package)\\b.*"));
        due("library calls", "[Integer.rotateRight, Long.rotateRight, Math.max, System.arraycopy]",
                found("\\b[A-Z][a-z]\\w*\\.\\w+(?=\\()"));
    }

    // Rules 2, 3, 6 and 7: the class does without all of these, and without a catch none of the
    // machine's exceptions can be an answer.
    private void hasNoForbiddenWord() {
        due("catches", NOTHING, found("\\b(?:try|catch|finally)\\b"));
        due("words", NOTHING, found("\\b(?:synchronized|assert|equals|hashCode|toString)\\b"));
        due("lambdas and method references", NOTHING, found("->|::"));
        due("floats", NOTHING, found("\\b(?:double|float)\\b"));
        due("divisions", NOTHING, found("[^\\n]*[/%][^\\n]*"));
    }

    // Rule 6: "throw new E("a written text")"
    private void throwsWhatIsAllowed() {
        due("throws", "[throw new IllegalArgumentException(\"\"), throw new IllegalStateException(\"\"), "
                + "throw new IndexOutOfBoundsException(\"\")]", found("\\bthrow\\b[^;]*"));
    }

    // Rule 11
    private void staysSmall() {
        CHECKS.due("classes are few", true, () -> matches("\\bclass \\w+").size() <= MOST_CLASSES);
        for (String header : matches("(?m)^ +[\\w\\[\\] ]+ \\w+\\([\\w\\[\\], ]*\\)(?:\\s*throws [\\w, ]+)? \\{$")) {
            String name = header.trim();
            CHECKS.due("lines of " + name, true, () -> linesFrom(header) <= MOST_LINES);
            int parameters = name.split("throws")[0].split(",").length;
            CHECKS.due("parameters of " + name, true, () -> parameters <= MOST_PARAMETERS);
        }
        CHECKS.due("methods were found", true, () -> matches("(?m)^ +public \\w+ \\w+\\(").size() == 17);
    }

    /** To the closing brace that stands as far in as the header does. */
    private int linesFrom(String header) {
        int from = source.indexOf(header);
        String brace = "\n" + header.substring(0, header.length() - header.stripLeading().length()) + "}";
        int to = source.indexOf(brace, from);
        return to < 0 ? Integer.MAX_VALUE : source.substring(from, to).split("\n").length + 1;
    }

    private static void due(String what, String want, Set<String> got) {
        CHECKS.due(what, want, () -> got);
    }

    private Set<String> found(String pattern) {
        return new TreeSet<>(matches(pattern));
    }

    private List<String> matches(String pattern) {
        List<String> all = new ArrayList<>();
        Matcher matcher = Pattern.compile(pattern).matcher(source);
        while (matcher.find()) {
            all.add(matcher.group());
        }
        return all;
    }
}
