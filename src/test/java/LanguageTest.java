import java.io.IOException;
import java.nio.file.Files;
import java.nio.file.Path;
import java.util.List;
import java.util.regex.Matcher;
import java.util.regex.Pattern;

/** The rules of LANGUAGE.md that can be seen in the words of the source; run from the project's folder. */
public final class LanguageTest {
    private static final Path SOURCE = Path.of("src/main/java/EndingsLab.java");
    private static final int LINES_OF_A_METHOD = 60;
    private static final int CLASSES = 12;
    private static final int PARAMETERS = 7;

    private static final List<String> NEVER = List.of(
        "\\bimport\\b", "\\bpackage\\b", "->", "::", "\\bfinally\\b", "\\bsynchronized\\b", "\\bassert\\b", "\\btry\\b",
        "\\bthrow\\b", "\\bprotected\\b", "\\bstatic\\s*\\{", "\\bSystem\\b(?!\\.arraycopy)", "\\bThread\\b", "\\bObject\\b",
        "\\bgetClass\\b", "\\bhashCode\\b", "\\btoString\\b", "\\w+Exact\\b", "@", "\\bvar\\b", "\\bvolatile\\b",
        "while\\s*\\(\\s*true", "for\\s*\\(\\s*;\\s*;", "\"");

    public static void main(String[] args) throws IOException {
        String source = Files.readString(SOURCE);
        String code = source.replaceAll("(?s)/\\*.*?\\*/", "").replaceAll("//[^\n]*", "");
        for (String never : NEVER) {
            Matcher found = Pattern.compile(never).matcher(code);
            Bench.due("the source is without " + never, !found.find());
        }
        Bench.due("the source is plain text", source.chars().allMatch(c -> c == '\n' || c >= 32 && c < 127));
        Bench.due("classes", count("\\b(class|enum|record|interface)\\s+\\w+", code) <= CLASSES);
        Bench.due("static fields are constants",
            count("\\bstatic\\s+(?!final\\b|boolean \\w+\\(|int \\w+\\()", code) == 0);
        shortMethods(code);
        Bench.finish("LanguageTest");
    }

    private static int count(String what, String code) {
        return (int) Pattern.compile(what).matcher(code).results().count();
    }

    private static void shortMethods(String code) {
        Matcher head = Pattern.compile("(?m)^( +)((?:\\w+(?:\\[\\])? )+)?(\\w+)\\(([^()]*)\\) \\{$").matcher(code);
        int methods = 0;
        while (head.find()) {
            int end = code.indexOf("\n" + head.group(1) + "}", head.end());
            long lines = code.substring(head.start(), end).lines().count() + 1;
            Bench.due(head.group(3) + " has " + lines + " lines", lines <= LINES_OF_A_METHOD);
            Bench.due(head.group(3) + " has few parameters", head.group(4).split(",").length <= PARAMETERS);
            methods++;
        }
        Bench.due("methods are found", methods > 40);
    }
}
