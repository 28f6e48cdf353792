import java.nio.charset.StandardCharsets;
import java.nio.file.Files;
import java.nio.file.Path;
import java.util.ArrayList;
import java.util.List;
import java.util.TreeSet;
import java.util.regex.Matcher;
import java.util.regex.Pattern;

/**
 * Goes through the document from its first line to its last: the class has the face that stands there, no more and no
 * less, and each word of the terms and of the promises belongs to a sentence that a test quotes, under the promise's
 * own number. Argument: the folder of the project.
 */
public final class DocumentTest {
    private static final Pattern QUOTE = Pattern.compile("\\bs\\.of\\((\\d+),\\s*((?:\"[^\"]*\"[\\s+]*)+)\\)");
    private static final Pattern LITERAL = Pattern.compile("\"([^\"]*)\"");
    private static final Pattern HEADING = Pattern.compile("## Promise (\\d+): [^`]*`([^`]*)`:");
    private static final Pattern WORD = Pattern.compile("[A-Za-z0-9]+");
    private static final int PROMISES = 29;
    private static final int CALLS = 28;

    private static final List<Integer> numbers = new ArrayList<>();
    private static final List<String> quotes = new ArrayList<>();
    private static int asked = 0;
    private static int wrong = 0;

    public static void main(String[] args) throws Exception {
        Path folder = Path.of(args.length > 0 ? args[0] : ".");
        String document = plain(read(folder.resolve("../shared/DOC.md")));
        String source = plain(read(folder.resolve("src/main/java/SlopeChecker.java")));
        gatherQuotes(folder.resolve("src/test/java"));
        face(document, source);
        int terms = document.indexOf("## Terms ");
        int end = document.indexOf("## Not promised ");
        holds("the parts of the document are there", terms > 0 && end > terms);
        sections(document.substring(terms + "## Terms ".length(), end), document);
        System.out.println(quotes.size() + " quotes, " + asked + " asked, " + wrong + " wrong");
        if (wrong != 0) {
            System.exit(1);
        }
    }

    private static void holds(String what, boolean b) {
        asked++;
        if (!b) {
            wrong++;
            System.out.println("it does not hold: " + what);
        }
    }

    private static String read(Path file) throws Exception {
        return new String(Files.readAllBytes(file), StandardCharsets.ISO_8859_1);
    }

    private static String plain(String s) {
        return s.replaceAll("\\s+", " ");
    }

    private static void gatherQuotes(Path tests) throws Exception {
        try (var files = Files.newDirectoryStream(tests, "Boundary*.java")) {
            for (Path file : files) {
                Matcher m = QUOTE.matcher(read(file));
                while (m.find()) {
                    StringBuilder words = new StringBuilder();
                    Matcher part = LITERAL.matcher(m.group(2));
                    while (part.find()) {
                        words.append(part.group(1));
                    }
                    numbers.add(Integer.valueOf(m.group(1)));
                    quotes.add(plain(words.toString()));
                }
            }
        }
        holds("there are quotes", quotes.size() > PROMISES);
    }

    /** Each line of the document's face stands in the class as it is, and nothing else is public there. */
    private static void face(String document, String source) {
        int begin = document.indexOf("public final class SlopeChecker {");
        String block = document.substring(begin, document.indexOf("```", begin));
        String[] lines = block.substring(block.indexOf('{') + 1, block.lastIndexOf('}')).split(";");
        TreeSet<String> told = new TreeSet<>();
        int calls = 0;
        for (String line : lines) {
            String member = line.trim();
            if (!member.isEmpty()) {
                told.add(member);
                boolean constant = member.contains("=");
                holds("the class has: " + member, source.contains(member + (constant ? ";" : " {")));
                calls += constant || member.equals("public SlopeChecker()") ? 0 : 1;
            }
        }
        holds("28 calls in the face", calls == CALLS);
        Matcher open = Pattern.compile("\\b(public|protected) [^;{]*").matcher(source);
        while (open.find()) {
            String member = open.group().trim();
            holds("the document has: " + member, told.contains(member) || member.equals("public final class SlopeChecker"));
        }
        Matcher heading = HEADING.matcher(document);
        int promise = 0;
        while (heading.find()) {
            promise++;
            holds("promise " + promise + " is next", Integer.parseInt(heading.group(1)) == promise);
            holds("the face has: " + heading.group(2), told.contains("public " + heading.group(2)));
        }
        holds("all promises", promise == PROMISES);
    }

    /** The terms, of which each test may quote, then each promise, of which its own tests must. */
    private static void sections(String body, String document) {
        Matcher heading = HEADING.matcher(body);
        int from = 0;
        int promise = 0;
        while (heading.find()) {
            quoted(promise, body.substring(from, heading.start()));
            promise = Integer.parseInt(heading.group(1));
            from = heading.end();
        }
        quoted(promise, body.substring(from));
        for (int i = 0; i < quotes.size(); i++) {
            holds("the document says: " + quotes.get(i), document.contains(quotes.get(i)));
        }
    }

    private static void quoted(int promise, String section) {
        boolean[] covered = new boolean[section.length()];
        for (int i = 0; i < quotes.size(); i++) {
            String quote = quotes.get(i);
            if (promise == 0 || numbers.get(i) == promise) {
                for (int at = section.indexOf(quote); at >= 0; at = section.indexOf(quote, at + 1)) {
                    java.util.Arrays.fill(covered, at, at + quote.length(), true);
                }
            }
        }
        Matcher word = WORD.matcher(section.replace("```text", "       ").replaceAll("==== \\d\\.", "       "));
        while (word.find()) {
            boolean joins = word.group().equals("or");
            String around = section.substring(Math.max(0, word.start() - 30), Math.min(section.length(), word.end() + 30));
            holds((promise == 0 ? "the terms" : "promise " + promise) + ", quoted: .. " + around + " ..",
                joins || covered[word.start()] && covered[word.end() - 1]);
        }
    }
}
