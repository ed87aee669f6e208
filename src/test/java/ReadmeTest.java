import java.io.StringWriter;
import java.net.URI;
import java.net.URL;
import java.net.URLClassLoader;
import java.nio.file.Files;
import java.nio.file.Path;
import java.util.List;
import java.util.regex.Matcher;
import java.util.regex.Pattern;
import javax.tools.JavaCompiler;
import javax.tools.JavaFileObject;
import javax.tools.SimpleJavaFileObject;
import javax.tools.ToolProvider;

/** The Java of README.md, compiled and run as it stands there; run from the project's root. */
public final class ReadmeTest {
    private static final Due DUE = new Due("ReadmeTest");
    private static final Pattern BLOCK = Pattern.compile("(?s)```java\n(.*?)```");
    private static final Pattern ASKED = Pattern.compile("(?m)^(bank\\.\\w+\\(.*?\\));\\s+// (-?\\d+|STATE|NONE)\\b.*$");
    private static final int FEWEST_ASKED = 25;

    /** What a call answered, and what the page tells. */
    public interface Answers {
        void is(String call, long got, long want);
    }

    private static final class Page extends SimpleJavaFileObject {
        private final String code;

        Page(String code) {
            super(URI.create("string:///Page.java"), Kind.SOURCE);
            this.code = code;
        }

        @Override
        public CharSequence getCharContent(boolean ignored) {
            return code;
        }
    }

    public static void main(String[] args) throws Exception {
        String page = Files.readString(Path.of("README.md"));
        StringBuilder code = new StringBuilder();
        Matcher block = BLOCK.matcher(page);
        while (block.find()) {
            code.append(block.group(1));
        }
        Matcher asked = ASKED.matcher(code);
        long calls = asked.results().count();
        DUE.is("calls with an answer", calls >= FEWEST_ASKED ? 1 : 0, 1);
        DUE.is("calls without one", code.toString().lines().filter(l -> l.startsWith("bank.")).count(), calls);
        run(asked.reset().replaceAll("due.is(\"$1\", $1, $2);"));
        testsAreNamed(page);
        DUE.end();
    }

    private static void run(String body) throws Exception {
        String whole = "public final class Page { static final int STATE = ThreadBank.STATE, NONE = ThreadBank.NONE;"
            + "public static void run(ReadmeTest.Answers due) {" + body + "} }";
        Path out = Files.createTempDirectory("readme");
        try {
            compile(whole, out);
            try (URLClassLoader loader = new URLClassLoader(new URL[] {out.toUri().toURL()})) {
                Answers answers = DUE::is;
                loader.loadClass("Page").getMethod("run", Answers.class).invoke(null, answers);
            }
        } finally {
            Files.deleteIfExists(out.resolve("Page.class"));
            Files.deleteIfExists(out);
        }
    }

    private static void compile(String code, Path out) {
        JavaCompiler compiler = ToolProvider.getSystemJavaCompiler();
        StringWriter said = new StringWriter();
        List<String> options = List.of("-d", out.toString(), "-cp", System.getProperty("java.class.path"));
        List<JavaFileObject> files = List.of(new Page(code));
        boolean compiled = compiler.getTask(said, null, null, options, null, files).call();
        DUE.is("the Java of the page", compiled ? "" : said.toString(), "");
    }

    private static void testsAreNamed(String page) throws Exception {
        try (var files = Files.list(Path.of("src/test/java"))) {
            files.map(file -> file.getFileName().toString().replace(".java", ""))
                .forEach(name -> DUE.is(name + " is named", page.contains(name) ? 1 : 0, 1));
        }
        for (var method : ThreadBank.class.getMethods()) {
            boolean own = method.getDeclaringClass() == ThreadBank.class;
            boolean named = page.contains("`" + method.getName() + "`");
            DUE.is(method.getName() + " is named", own && !named ? 1 : 0, 0);
        }
    }
}
