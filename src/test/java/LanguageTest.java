import java.nio.file.Files;
import java.nio.file.Path;
import java.util.List;
import java.util.Set;
import java.util.TreeSet;
import java.util.regex.Matcher;
import java.util.regex.Pattern;

/** Those rules of ../shared/LANGUAGE.md that can be read off the lines of the class. */
public final class LanguageTest {
    private static final List<String> RULED_OUT = List.of("import", "package", "try", "catch", "finally", "throw", "throws",
        "synchronized", "assert", "instanceof", "volatile", "native", "strictfp", "Object", "var", "null");
    private static final Set<String> LIBRARY = Set.of("Math.max", "Math.min", "Math.floorMod", "Integer.bitCount");
    private static final int MOST_LINES = 60;
    private static final int MOST_PARAMETERS = 7;

    private static final Due due = new Due();

    public static void main(String[] args) throws Exception {
        String source = Files.readString(Path.of("src/main/java/BookShows.java"));
        due.is("signs beyond 126", (int) source.chars().filter(sign -> sign > 126).count(), 0);
        String code = source.replaceAll("(?s)/\\*.*?\\*/", "").replaceAll("//[^\n]*", "").replaceAll("'.'", "0");
        for (String word : RULED_OUT) {
            due.is("uses of " + word, found(code, "\\b" + word + "\\b"), 0);
        }
        due.is("lambdas and method references", found(code, "->|::"), 0);
        due.is("texts joined by +", found(code, "\""), 0);
        library(code);
        methods(code);
        due.end();
    }

    private static int found(String code, String pattern) {
        Matcher matcher = Pattern.compile(pattern).matcher(code);
        int count = 0;
        while (matcher.find()) {
            count++;
        }
        return count;
    }

    private static void library(String code) {
        Matcher matcher = Pattern.compile("\\b(Math|Integer|Long|System|Arrays|String|List)\\.\\w+").matcher(code);
        Set<String> beside = new TreeSet<>();
        while (matcher.find()) {
            if (!LIBRARY.contains(matcher.group())) {
                beside.add(matcher.group());
            }
        }
        due.is("library calls beside those known to be allowed: " + beside, beside.size(), 0);
    }

    private static void methods(String code) {
        Matcher matcher = Pattern.compile("(?m)^( +)[\\w\\[\\] ]+\\(([^)]*)\\) \\{$").matcher(code);
        while (matcher.find()) {
            if (matcher.group().trim().matches("(if|for|while|switch|else).*")) {
                continue;
            }
            int end = code.indexOf("\n" + matcher.group(1) + "}", matcher.end());
            int lines = (int) code.substring(matcher.start(), end).lines().count();
            due.is("too many lines: " + matcher.group().trim(), lines <= MOST_LINES ? 1 : 0, 1);
            int parameters = matcher.group(2).isEmpty() ? 0 : matcher.group(2).split(",").length;
            due.is("too many parameters: " + matcher.group().trim(), parameters <= MOST_PARAMETERS ? 1 : 0, 1);
        }
    }
}
