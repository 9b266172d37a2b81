import java.io.IOException;
import java.nio.file.Files;
import java.nio.file.Path;
import java.util.List;
import java.util.regex.Matcher;
import java.util.regex.Pattern;

/** Rules of the language that a look at the class's text shows. */
public final class LanguageTest {
    private static final String[] NOT_THERE = {
        "\\bpackage\\b", "\\bthrow\\b", "\\bthrows\\b", "\\btry\\b", "\\bcatch\\b", "\\bsynchronized\\b", "\\bassert\\b",
        "->", "::", "\\bStream\\b", "\\bMap\\b", "\\bSet\\b", "\\bRandom\\b", "\\bThread\\b", "\\bNaN\\b",
        "[a-z]Exact\\b", "\\bprotected\\b", "\\bvolatile\\b", "\\btransient\\b", "\\bnative\\b", "\\bvar\\b",
        "System\\.(?!arraycopy)", "Arrays\\.(?!copyOf|fill)", "Math\\.(?!max|min|abs)", "Integer\\.(?!bitCount)", "\\bLong\\."};

    public static void main(String[] args) throws IOException {
        List<String> lines = Files.readAllLines(Path.of("src/main/java/CradleVeto.java"));
        StringBuilder code = new StringBuilder();
        for (String line : lines) {
            String text = line.replaceAll("//.*|^\\s*/\\*\\*.*\\*/\\s*$", "").replaceAll("'.'", "' '");
            code.append(text).append('\n');
        }
        for (String each : NOT_THERE) Due.so("not there: " + each, !Pattern.compile(each).matcher(code).find());
        Due.is("imports", count(code, "\\bimport\\b"), 1);
        Due.is("that of Arrays", count(code, "import java\\.util\\.Arrays;"), 1);
        Due.so("some twelve classes", count(code, "\\bclass\\b") <= 12);
        Due.is("classes inside are static", count(code, "\\bclass\\b"), 1 + count(code, "private static final class\\b"));
        Due.is("public methods, constructor, constants, class", count(code, "\\bpublic\\b"), 42 + 1 + 1);
        Due.is("static fields are final", count(code, "static (int|long|boolean|char|byte)(\\[\\])? \\w+( =|;|,)"), 0);
        methods(lines);
        Due.end();
    }

    private static int count(CharSequence code, String pattern) {
        Matcher found = Pattern.compile(pattern).matcher(code);
        int count = 0;
        while (found.find()) count++;
        return count;
    }

    private static void methods(List<String> lines) {
        Pattern head = Pattern.compile("^( {4}| {8})((?:public|private|static|final) )*[\\w\\[\\]]+( \\w+)?\\(([^)]*)\\) \\{$");
        String end = null;
        int begun = 0;
        int methods = 0;
        for (int i = 0; i < lines.size(); i++) {
            Matcher found = head.matcher(lines.get(i));
            if (found.find()) {
                methods++;
                begun = i;
                end = found.group(1) + "}";
                Due.so("seven parameters at most: " + lines.get(i), found.group(4).split(",").length <= 7);
            } else if (lines.get(i).equals(end)) {
                Due.so("sixty lines at most: " + lines.get(begun), i - begun < 60);
                end = null;
            }
        }
        Due.so("methods were found", methods > 100);
    }
}
