import java.lang.reflect.Field;
import java.lang.reflect.Modifier;
import java.nio.file.Files;
import java.nio.file.Path;
import java.util.regex.Matcher;
import java.util.regex.Pattern;

/** What of LANGUAGE.md can be seen in the letters of the source; run from the project's root. */
public final class LanguageTest {
    private static final Due DUE = new Due("LanguageTest");
    private static final String SOURCE = "src/main/java/ThreadBank.java";
    private static final int LONGEST_METHOD = 60;
    private static final int MOST_CLASSES = 12;
    private static final int MOST_PARAMETERS = 7;
    private static final int MOST_FIELDS = 20;

    public static void main(String[] args) throws Exception {
        String code = Files.readString(Path.of(SOURCE)).replaceAll("(?s)/\\*.*?\\*/", "").replaceAll("//[^\n]*", "");
        none(code, "\\b(throw|throws|try|catch|finally|synchronized|assert|protected|package|import)\\b", "1, 6");
        none(code, "->|::|@", "2");
        none(code, "\\b(equals|hashCode|toString|getClass|Object|Arrays|Exception|Throwable)\\b", "4, 6");
        none(code, "\\b\\w+Exact\\b|\\b(double|float)\\b", "3, 4");
        none(code, "[^\\x01-\\x7f]", "4");
        none(code, "\\bstatic\\s*\\{", "5");
        none(code, "\\bwhile\\s*\\(\\s*true|\\bfor\\s*\\(\\s*;", "9");
        checkMethods(code);
        checkClasses();
        DUE.end();
    }

    private static void none(String code, String pattern, String rule) {
        Matcher matcher = Pattern.compile(pattern).matcher(code);
        DUE.is("rule " + rule, matcher.find() ? "'" + matcher.group() + "'" : "", "");
    }

    private static void atMost(String what, long got, long most) {
        DUE.is(what + " at most " + most, Math.max(got, most), most);
    }

    private static void checkMethods(String code) {
        Matcher head = Pattern.compile("(?m)^( +)(?:[\\w\\[\\]]+ )+(\\w+)\\(([^)]*)\\) \\{$").matcher(code);
        int methods = 0;
        while (head.find()) {
            methods++;
            int end = code.indexOf("\n" + head.group(1) + "}", head.end() - 1);
            atMost("lines of " + head.group(2), code.substring(head.start(), end).lines().count(), LONGEST_METHOD);
            atMost("parameters of " + head.group(2), head.group(3).split(",").length, MOST_PARAMETERS);
        }
        DUE.is("methods are found", methods > 41 ? 1 : 0, 1);
    }

    private static void checkClasses() {
        Class<?>[] inside = ThreadBank.class.getDeclaredClasses();
        atMost("classes", inside.length + 1, MOST_CLASSES);
        checkFields(ThreadBank.class);
        for (Class<?> one : inside) {
            checkFields(one);
        }
    }

    private static void checkFields(Class<?> one) {
        int fields = 0;
        for (Field field : one.getDeclaredFields()) {
            boolean fixed = Modifier.isStatic(field.getModifiers());
            DUE.is("rule 5: " + field, fixed && !Modifier.isFinal(field.getModifiers()) ? 1 : 0, 0);
            fields += fixed ? 0 : 1;
        }
        atMost("fields of " + one, fields, MOST_FIELDS);
    }
}
