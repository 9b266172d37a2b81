import java.io.IOException;
import java.lang.reflect.Field;
import java.lang.reflect.Method;
import java.lang.reflect.Modifier;
import java.nio.file.Files;
import java.nio.file.Path;
import java.util.List;
import java.util.Set;
import java.util.TreeSet;
import java.util.regex.Matcher;
import java.util.regex.Pattern;

/** Rules of the language that a look at the class's text shows. */
public final class LanguageTest {
    private static final String[] NOT_THERE = {
        "\\bpackage\\b", "\\bthrow\\b", "\\bthrows\\b", "\\btry\\b", "\\bcatch\\b", "\\bsynchronized\\b", "\\bassert\\b",
        "->", "::", "\\bStream\\b", "\\bMap\\b", "\\bSet\\b", "\\bRandom\\b", "\\bThread\\b", "\\bNaN\\b",
        "[a-z]Exact\\b", "\\bprotected\\b", "\\bvolatile\\b", "\\btransient\\b", "\\bnative\\b", "\\bvar\\b",
        "System\\.(?!arraycopy)", "Arrays\\.(?!copyOf|fill)", "Math\\.(?!max|min|abs)", "Integer\\.(?!bitCount)", "\\bLong\\."};

    private static final Set<String> CONSTANTS = Set.of("int", "long", "boolean", "char", "String", "int[]", "long[]", "char[]", "byte[]");

    public static void main(String[] args) throws IOException {
        List<String> lines = Files.readAllLines(Path.of("src/main/java/CradleVeto.java"));
        StringBuilder code = new StringBuilder();
        for (String line : lines) {
            String text = line.replaceAll("//.*|^\\s*/\\*\\*.*\\*/\\s*$", "").replaceAll("'.'", "' '");
            code.append(text).append('\n');
        }
        for (String each : NOT_THERE) Due.so("not there: " + each, !Pattern.compile(each).matcher(code).find());
        Due.is("imports", count(code, "\\bimport\\b"), 1);
        Due.is("that of Arrays", count(code, "import java\\.util\\.Arrays;"), 1);
        Due.so("some twelve classes", count(code, "\\bclass\\b") <= 12);
        Due.is("classes inside are static", count(code, "\\bclass\\b"), 1 + count(code, "private static final class\\b"));
        Due.is("public methods, constructor, constants, class", count(code, "\\bpublic\\b"), 42 + 1 + 1);
        Due.is("static fields are final", count(code, "static (int|long|boolean|char|byte)(\\[\\])? \\w+( =|;|,)"), 0);
        Due.is("signs beyond 127", count(code, "[^\\x00-\\x7f]"), 0);
        Due.is("loops without an end of their own", count(code, "for \\([^;]*;\\s*;|while \\(true\\)"), 0);
        Due.is("texts joined", count(code, "\""), 0);
        Due.is("made by methods: the constructor's shelves alone", count(code, "(?m)^ {8,}(?!private final).*\\bnew\\b"), 1);
        methods(lines);
        classes();
        Due.end();
    }

    private static int count(CharSequence code, String pattern) {
        Matcher found = Pattern.compile(pattern).matcher(code);
        int count = 0;
        while (found.find()) count++;
        return count;
    }

    private static void methods(List<String> lines) {
        Pattern head = Pattern.compile("^( {4}| {8})((?:public|private|static|final) )*[\\w\\[\\]]+( \\w+)?\\(([^)]*)\\) \\{$");
        String end = null;
        int begun = 0;
        int methods = 0;
        for (int i = 0; i < lines.size(); i++) {
            Matcher found = head.matcher(lines.get(i));
            if (found.find()) {
                methods++;
                begun = i;
                end = found.group(1) + "}";
                Due.so("seven parameters at most: " + lines.get(i), found.group(4).split(",").length <= 7);
            } else if (lines.get(i).equals(end)) {
                Due.so("sixty lines at most: " + lines.get(begun), i - begun < 60);
                end = null;
            }
        }
        Due.so("methods were found", methods > 100);
    }

    /** What a look at the classes themselves shows. */
    private static void classes() {
        Class<?>[] inside = CradleVeto.class.getDeclaredClasses();
        Due.so("some twelve classes", inside.length <= 11);
        Set<String> shown = new TreeSet<>();
        for (Method each : CradleVeto.class.getMethods()) shown.add(each.getName());
        fields(CradleVeto.class);
        for (Method each : CradleVeto.class.getDeclaredMethods()) {
            if (Modifier.isPrivate(each.getModifiers())) Due.so("a name of its own: " + each, !shown.contains(each.getName()));
        }
        for (Class<?> one : inside) {
            Due.so("private, static: " + one, Modifier.isPrivate(one.getModifiers()) && Modifier.isStatic(one.getModifiers()));
            Due.is("classes inside " + one, one.getDeclaredClasses().length, 0);
            fields(one);
            for (Method each : one.getDeclaredMethods()) {
                Due.so("a name of its own: " + each, !shown.contains(each.getName()));
                Due.so("seven parameters at most: " + each, each.getParameterCount() <= 7);
            }
        }
    }

    /** Some twenty fields a class beside its constants; static ones are final, and of one dimension at most. */
    private static void fields(Class<?> one) {
        int own = 0;
        for (Field each : one.getDeclaredFields()) {
            boolean isStatic = Modifier.isStatic(each.getModifiers());
            if (!isStatic) own++;
            Due.so("final: " + each, !isStatic || Modifier.isFinal(each.getModifiers()));
            Class<?> type = each.getType();
            Due.so("of a number: " + each, !isStatic || CONSTANTS.contains(type.getSimpleName()));
            boolean isTable = type.isArray() && type.getComponentType().isArray();
            Due.so("of numbers: " + each, !isTable || type.getComponentType().getComponentType().isPrimitive());
        }
        Due.so("twenty fields at most: " + one, own <= 20);
    }
}
