import java.nio.file.Files;
import java.nio.file.Path;
import java.util.regex.Matcher;
import java.util.regex.Pattern;

/** Rules of LANGUAGE.md that can be seen from the text of the program. */
final class LanguageTest {
    private static final Check C = new Check();
    private static final String[] REFUSED = {
        "\\b(throw|throws|try|catch|synchronized|assert|native|volatile|transient|package|import|protected)\\b",
        "->", "::", "\\bSystem\\.(?!arraycopy\\b)", "\\b\\w+Exact\\b", "\\bObject\\b", "\\bgetClass\\b", "\\bThread\\b",
        "\\.(hashCode|toString)\\(", "\\b(double|float)\\b", "\\bnew\\s+\\w+(\\(\\w*\\))?\\s*\\{", "\\bstatic\\s*\\{",
        "\\[\\]\\s*\\[\\]\\s*\\[\\]"};

    public static void main(String[] args) throws Exception {
        String source = Files.readString(Path.of("src/main/java/TubSteps.java"));
        for (int i = 0; i < source.length(); i++) {
            if (source.charAt(i) > 126) {
                C.holds("sign " + i + " of the program is plain", false);
            }
        }
        String code = source.replaceAll("(?s)/\\*.*?\\*/", " ").replaceAll("//[^\\n]*", " ").replaceAll("\"[^\"\\n]*\"", "\"\"");
        for (String each : REFUSED) {
            Matcher m = Pattern.compile(each).matcher(code);
            C.holds("nothing as " + each, !m.find());
        }
        C.holds("texts are not joined by +", !Pattern.compile("\"\\s*\\+|\\+\\s*\"").matcher(code).find());
        classes(code);
        methods(code);
        C.end();
    }

    private static void classes(String code) {
        Matcher m = Pattern.compile("\\b(class|enum|interface|record)\\s+\\w+").matcher(code);
        int many = 0;
        while (m.find()) {
            many++;
        }
        C.holds("at most twelve classes", many >= 1 && many <= 12);
    }

    /** Methods are at most sixty lines long and take at most seven parameters. */
    private static void methods(String code) {
        Matcher m = Pattern.compile("(?m)^( +)(?:[\\w\\[\\]]+ )*(\\w+)\\(([^()]*)\\) \\{$").matcher(code);
        int many = 0;
        while (m.find()) {
            if (m.group().matches("(?s).*\\b(if|for|while|switch|else|return)\\b.*\\{")) {
                continue;
            }
            many++;
            int end = code.indexOf("\n" + m.group(1) + "}", m.end());
            String body = code.substring(m.start(), end);
            C.holds(m.group(2) + " is short", body.split("\n").length <= 60);
            C.holds(m.group(2) + " takes few", m.group(3).split(",").length <= 7);
        }
        C.holds("the methods were found", many > 90);
    }
}
