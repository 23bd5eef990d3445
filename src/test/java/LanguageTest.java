import java.nio.charset.StandardCharsets;
import java.nio.file.Files;
import java.nio.file.Path;
import java.util.List;
import java.util.Set;
import java.util.regex.Matcher;
import java.util.regex.Pattern;

/** A plain look at the source for what LANGUAGE.md does not allow; it finds slips, it is no proof. */
final class LanguageTest {
    private static final String[] FORBIDDEN = {"\\bfinally\\b", "\\bassert\\b", "\\bsynchronized\\b", "\\bpackage\\b",
        "->", "::", "static\\s*\\{", "\\bprotected\\b", "\\bObject\\b", "\\bThread\\b", "\\bvar\\b", "\\bhashCode\\b", "Exact\\b",
        "\"\\s*\\+", "\\+\\s*\"", "\\bwhile\\s*\\(true\\)", "for\\s*\\(;;"};
    private static final Set<String> LIBRARY = Set.of("System.arraycopy", "Math.max", "Math.min", "Integer.bitCount");

    private LanguageTest() {
    }

    public static void main(String[] args) throws Exception {
        String source = Files.readString(Path.of("src/main/java/PortDues.java"), StandardCharsets.UTF_8);
        for (int i = 0; i < source.length(); i++) {
            Check.due("the sign at " + i + " is ASCII", source.charAt(i) < 128, true);
        }
        String code = source.replaceAll("(?s)/\\*.*?\\*/", "").replaceAll("//[^\n]*", "");
        for (String pattern : FORBIDDEN) {
            Matcher m = Pattern.compile(pattern).matcher(code);
            Check.due("'" + pattern + "' in the source", m.find() ? m.group() : "", "");
        }
        staticsAreFinal(code);
        theLibrary(code);
        theThrows(code);
        shortMethods(source);
        Check.finish();
    }

    private static void staticsAreFinal(String code) {
        Matcher m = Pattern.compile("\\bstatic\\s+(?!final\\b)[^(;{]*;").matcher(code);
        Check.due("a static field that is not final", m.find() ? m.group() : "", "");
    }

    private static void theLibrary(String code) {
        Matcher m = Pattern.compile("\\b(System|Math|Integer)\\.\\w+").matcher(code);
        while (m.find()) {
            Check.due("the library has " + m.group(), LIBRARY.contains(m.group()), true);
        }
    }

    private static void theThrows(String code) {
        Matcher m = Pattern.compile("throw\\b[^;]*;").matcher(code);
        int count = 0;
        while (m.find()) {
            count++;
            Check.due("the form of " + m.group(), m.group().matches("throw new \\w+Exception\\(\"[^\"]*\"\\);"), true);
        }
        Check.due("there are throws", count > 0, true);
    }

    private static void shortMethods(String source) {
        List<String> lines = source.lines().toList();
        int start = -1;
        for (int i = 0; i < lines.size(); i++) {
            String line = lines.get(i);
            if (line.matches(" {4,8}[^ /*@}].*\\) ?(throws .*)?\\{") || line.matches(" {12}throws .*\\{")) {
                start = i;
            }
            if (start >= 0 && line.matches(" {4,8}\\}")) {
                Check.due("the method at line " + (start + 1) + " is short", i - start < 60, true);
                start = -1;
            }
            Check.due("line " + (i + 1) + " is not long", line.length() <= 120, true);
        }
    }
}
