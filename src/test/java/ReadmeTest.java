import java.lang.reflect.Method;
import java.lang.reflect.Modifier;
import java.net.URL;
import java.net.URLClassLoader;
import java.nio.file.Files;
import java.nio.file.Path;
import java.util.ArrayList;
import java.util.List;
import java.util.TreeSet;
import java.util.regex.Matcher;
import java.util.regex.Pattern;
import javax.tools.JavaCompiler;
import javax.tools.ToolProvider;

/** What README.md shows: its lines of Java are made one program, and each must answer what stands behind it. */
public final class ReadmeTest {
    private static final Pattern BLOCK = Pattern.compile("(?s)```java\n(.*?)```");
    private static final Pattern ANSWERED =
        Pattern.compile("((?:int \\w+ = )?)(book\\.\\w+\\([^;]*\\));\\s*// (-?\\d+|[A-Z]+)(?:: \\S.*)?");
    private static final Pattern UNANSWERED = Pattern.compile("BookShows book = new BookShows\\(\\);"
        + "|for \\(char sign : \"[!-~]+\"\\.toCharArray\\(\\)\\) book\\.say\\(sign\\);"
        + "|for \\(int i = 0; i < \\d+; i\\+\\+\\) book\\.version\\(\\);");
    private static final Path MADE = Path.of("build/readme");

    private static final Due due = new Due();

    public static void main(String[] args) throws Exception {
        String readme = Files.readString(Path.of("README.md"));
        List<String> lines = linesOf(readme);
        everyCallIsShown(lines);
        everyRefusalIsShown(lines);
        namesWhatACallerMustKnow(readme);
        answers(lines);
        due.end();
    }

    /** The lines of Java, without empty ones. */
    private static List<String> linesOf(String readme) {
        List<String> lines = new ArrayList<>();
        Matcher block = BLOCK.matcher(readme);
        while (block.find()) {
            block.group(1).lines().filter(line -> !line.isBlank()).forEach(lines::add);
        }
        return lines;
    }

    private static void everyCallIsShown(List<String> lines) {
        TreeSet<String> missing = new TreeSet<>();
        for (Method method : BookShows.class.getDeclaredMethods()) {
            if (Modifier.isPublic(method.getModifiers())) {
                missing.add(method.getName());
            }
        }
        for (String line : lines) {
            Matcher answered = ANSWERED.matcher(line);
            if (answered.matches()) {
                missing.remove(answered.group(2).replaceAll("book\\.(\\w+).*", "$1"));
            }
        }
        due.is("calls that README.md does not show: " + missing, missing.size(), 0);
    }

    private static void everyRefusalIsShown(List<String> lines) {
        for (String name : List.of("NONE", "UNKNOWN", "OUTSIDE", "STATE", "FULL", "NO")) {
            boolean isShown = lines.stream().anyMatch(line -> line.matches(".*// " + name + "(:.*)?"));
            due.is("README.md shows " + name, isShown ? 1 : 0, 1);
        }
    }

    private static void namesWhatACallerMustKnow(String readme) {
        for (String part : List.of("at most 512 calls", "changes nothing", ".ci/run", "no call throws")) {
            due.is("README.md says: " + part, readme.contains(part) ? 1 : 0, 1);
        }
    }

    private static void answers(List<String> lines) throws Exception {
        JavaCompiler compiler = ToolProvider.getSystemJavaCompiler();
        due.is("there is a compiler", compiler == null ? 0 : 1, 1);
        if (compiler == null) {
            return;
        }
        Files.createDirectories(MADE);
        Path source = MADE.resolve("ReadmeUse.java");
        Files.writeString(source, program(lines));
        int compiled = compiler.run(null, null, null, "-d", MADE.toString(), "-cp", System.getProperty("java.class.path"), source.toString());
        due.is("README.md's lines compile", compiled, 0);
        if (compiled != 0) {
            return;
        }
        try (URLClassLoader loader = new URLClassLoader(new URL[] {MADE.toUri().toURL()})) {
            int[] got = (int[]) loader.loadClass("ReadmeUse").getMethod("answers").invoke(null);
            compare(lines, got);
        }
    }

    /** A class that makes the calls in their order: of each line what it answered, then what README.md says. */
    private static String program(List<String> lines) {
        StringBuilder code = new StringBuilder("public final class ReadmeUse {\n    public static int[] answers() {\n");
        code.append("        int[] got = new int[").append(2 * lines.size()).append("];\n");
        for (int i = 0; i < lines.size(); i++) {
            Matcher answered = ANSWERED.matcher(lines.get(i));
            if (!answered.matches()) {
                code.append("        ").append(lines.get(i)).append('\n');
                continue;
            }
            String said = answered.group(3);
            String value = Character.isLetter(said.charAt(0)) ? "BookShows." + said : said;
            code.append("        ").append(answered.group(1)).append("got[").append(2 * i).append("] = ")
                .append(answered.group(2)).append(";\n");
            code.append("        got[").append(2 * i + 1).append("] = ").append(value).append(";\n");
        }
        return code.append("        return got;\n    }\n}\n").toString();
    }

    private static void compare(List<String> lines, int[] got) {
        int answered = 0;
        for (int i = 0; i < lines.size(); i++) {
            if (ANSWERED.matcher(lines.get(i)).matches()) {
                answered++;
                due.is("README.md: " + lines.get(i), got[2 * i], got[2 * i + 1]);
            } else {
                due.is("README.md tells no answer: " + lines.get(i), UNANSWERED.matcher(lines.get(i)).matches() ? 1 : 0, 1);
            }
        }
        due.is("README.md shows answers", answered > 0 ? 1 : 0, 1);
    }
}
