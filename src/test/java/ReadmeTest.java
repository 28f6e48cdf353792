import java.io.ByteArrayOutputStream;
import java.io.PrintStream;
import java.net.URL;
import java.net.URLClassLoader;
import java.nio.charset.StandardCharsets;
import java.nio.file.Files;
import java.nio.file.Path;
import java.util.ArrayList;
import java.util.List;
import java.util.regex.Matcher;
import java.util.regex.Pattern;
import javax.tools.JavaCompiler;
import javax.tools.ToolProvider;

/** README.md's example is compiled and run, and answers what is written behind each of its calls. */
public final class ReadmeTest {
    private static final Pattern SHOWN = Pattern.compile("\\n *show\\(.*\\); *// (-?\\d+)");
    private static final String[] MENTIONED = {".ci/run", "../shared/DOC.md", "../shared/LANGUAGE.md", "src/main/java/SlopeChecker.java"};

    private static int asked = 0;
    private static int wrong = 0;

    public static void main(String[] args) throws Exception {
        Path folder = Path.of(args.length > 0 ? args[0] : ".");
        String readme = new String(Files.readAllBytes(folder.resolve("README.md")), StandardCharsets.ISO_8859_1);
        for (String path : MENTIONED) {
            holds("README.md tells of " + path + ", which is there", readme.contains(path) && Files.exists(folder.resolve(path)));
        }
        try (var tests = Files.newDirectoryStream(folder.resolve("src/test/java"), "*.java")) {
            for (Path test : tests) {
                String name = test.getFileName().toString().replace(".java", "");
                holds("README.md tells of " + name, readme.contains("`" + name + "`"));
            }
        }
        for (var call : SlopeChecker.class.getMethods()) {
            if (call.getDeclaringClass() == SlopeChecker.class) {
                holds("README.md tells of " + call.getName(), readme.contains("`" + call.getName() + "`"));
            }
        }
        example(readme);
        System.out.println(asked + " asked, " + wrong + " wrong");
        if (wrong != 0) {
            System.exit(1);
        }
    }

    private static void holds(String what, boolean b) {
        asked++;
        if (!b) {
            wrong++;
            System.out.println("it does not hold: " + what);
        }
    }

    private static void example(String readme) throws Exception {
        int begin = readme.indexOf("```java\n") + "```java\n".length();
        String code = readme.substring(begin, readme.indexOf("```", begin));
        List<String> due = new ArrayList<>();
        Matcher shown = SHOWN.matcher(code);
        while (shown.find()) {
            due.add(shown.group(1));
        }
        holds("the example shows answers", due.size() > 20);
        List<String> got = List.of(run(code).trim().split("\\s+"));
        holds("as many answers as shown: " + got, got.size() == due.size());
        for (int i = 0; i < due.size() && i < got.size(); i++) {
            holds("answer " + (i + 1) + " of the example is " + due.get(i) + ", but was " + got.get(i), due.get(i).equals(got.get(i)));
        }
    }

    private static String run(String code) throws Exception {
        Path made = Files.createTempDirectory("example");
        Path file = made.resolve("Example.java");
        Files.write(file, code.getBytes(StandardCharsets.ISO_8859_1));
        JavaCompiler compiler = ToolProvider.getSystemJavaCompiler();
        String path = System.getProperty("java.class.path");
        holds("the example can be compiled", compiler.run(null, null, null, "-cp", path, "-d", made.toString(), file.toString()) == 0);
        PrintStream out = System.out;
        ByteArrayOutputStream told = new ByteArrayOutputStream();
        try (URLClassLoader loader = new URLClassLoader(new URL[] {made.toUri().toURL()})) {
            System.setOut(new PrintStream(told, true));
            loader.loadClass("Example").getMethod("main", String[].class).invoke(null, (Object) new String[0]);
        } finally {
            System.setOut(out);
            Files.delete(file);
            Files.deleteIfExists(made.resolve("Example.class"));
            Files.delete(made);
        }
        return told.toString();
    }
}
