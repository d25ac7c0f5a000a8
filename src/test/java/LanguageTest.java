import java.io.IOException;
import java.nio.charset.StandardCharsets;
import java.nio.file.Files;
import java.nio.file.Path;
import java.util.List;
import java.util.regex.Matcher;
import java.util.regex.Pattern;

/** What of LANGUAGE.md can be seen in the program's text alone. It is run from the project's folder. */
public final class LanguageTest {
    private static final Path PROGRAM = Path.of("src/main/java/HushWatch.java");

    private static void absent(String text, String rule, String pattern) {
        Matcher found = Pattern.compile(pattern).matcher(text);
        boolean there = found.find();
        Check.due("rule " + rule + ": " + (there ? found.group() : pattern), there, false);
    }

    private static String withoutComments(String text) {
        return text.replaceAll("(?s)/\\*.*?\\*/", "").replaceAll("//[^\n]*", "");
    }

    private static void words(String text) {
        absent(text, "2: no lambda", "->");
        absent(text, "2: no method reference", "::");
        absent(text, "3: no Math on doubles, no doubles here", "\\b(double|float)\\b");
        absent(text, "6: no such words", "\\b(synchronized|assert|finally|try|catch|instanceof|volatile)\\b");
        absent(text, "6: no such methods", "\\b(equals|hashCode|toString|getMessage)\\b");
        absent(text, "9: no loop without an end", "for \\(;;|while \\(true\\)");
        absent(text, "10: texts are not joined by +", "\"\\s*\\+|\\+\\s*\"");
        absent(text, "4, 13: no library but what is listed",
                "\\b(Thread|Random|File|Runtime|System\\.(?!arraycopy)|Objects|Optional|Stream|Exact)\\b");
        absent(text, "5: no static block", "static\\s*\\{");
        absent(text, "6: exceptions with a written text", "throw (?!new NoSuchElementException\\(\"[^\"]*\"\\);)");
        Matcher imports = Pattern.compile("import ([^;]*);").matcher(text);
        while (imports.find()) {
            Check.due("rule 4: " + imports.group(), imports.group(1).equals("java.util.NoSuchElementException"), true);
        }
        absent(text, "the file has no package line", "package ");
    }

    private static void signs(String text) {
        for (int i = 0; i < text.length(); i++) {
            char sign = text.charAt(i);
            if (sign != '\n' && (sign < 32 || sign > 126)) {
                Check.due("rule 4: the sign at " + i, sign, ' ');
            }
        }
        Check.due("rule 5: static fields are final", Pattern.compile("static (?!final)[\\w\\[\\]]+ \\w+\\s*[;=]")
                .matcher(text).find(), false);
    }

    /** Methods end with a brace as far in as they begin, so their length can be counted in lines. */
    private static void lengths(List<String> lines) {
        Pattern head = Pattern.compile("^( +)(?!.*\\b(class|if|for|while|switch|else)\\b).*\\w\\((.*)\\).*\\{$");
        for (int i = 0; i < lines.size(); i++) {
            Matcher method = head.matcher(lines.get(i));
            if (!method.matches()) {
                continue;
            }
            String close = method.group(1) + "}";
            int end = i;
            while (end < lines.size() && !lines.get(end).equals(close)) {
                end++;
            }
            Check.due("rule 11: lines of " + lines.get(i).trim(), end - i <= 60, true);
            Check.due("rule 11: parameters of " + lines.get(i).trim(), method.group(3).split(",").length <= 7, true);
        }
    }

    public static void main(String[] args) throws IOException {
        String text = Files.readString(PROGRAM, StandardCharsets.UTF_8);
        words(withoutComments(text));
        signs(text);
        lengths(List.of(text.split("\n")));
        Check.finish("LanguageTest");
    }
}
