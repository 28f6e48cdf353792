import java.nio.charset.StandardCharsets;
import java.nio.file.Files;
import java.nio.file.Path;
import java.util.NoSuchElementException;

/**
 * What the boundary tests share: each of their tests belongs to one sentence of the document, names its promise,
 * and asks on both sides of the border that the sentence names, so two times at least.
 */
final class Sentences {
    static final int NO_INT = Integer.MIN_VALUE;
    static final long NO_LONG = Long.MIN_VALUE;
    static final int OUT_OF_BOUNDS = 10001;
    static final int NO_ELEMENT = 10002;
    private static final int PROMISES = 29;

    private final String document;
    private final int[] tests = new int[PROMISES + 1];
    private int promise = 0;
    private String words = "";
    private int askedOfThis = 2;
    private int asked = 0;
    private int wrong = 0;

    /** The first argument is the project's folder. */
    Sentences(String[] args) throws Exception {
        Path doc = Path.of(args.length > 0 ? args[0] : ".").resolve("../shared/DOC.md");
        boolean there = Files.isReadable(doc);
        document = there ? plain(new String(Files.readAllBytes(doc), StandardCharsets.ISO_8859_1)) : "";
        if (!there) {
            System.out.println("no " + doc + ": it isn't asked whether the sentences are the document's");
        }
    }

    private static String plain(String s) {
        return s.replaceAll("\\s+", " ");
    }

    /** Begins the test of a sentence, or of that part of one that names a border. */
    void of(int number, String sentence) {
        endTest();
        promise = number;
        words = sentence;
        askedOfThis = 0;
        tests[number]++;
        if (!document.isEmpty() && !document.contains(plain(sentence))) {
            fault("the document doesn't say so");
        }
    }

    private void endTest() {
        if (askedOfThis < 2) {
            fault("asked on one side of the border alone");
        }
    }

    private void fault(String what) {
        wrong++;
        System.out.println("promise " + promise + ", \"" + words + "\": " + what);
    }

    void due(String call, long got, long want) {
        asked++;
        askedOfThis++;
        if (got != want) {
            fault(call + " answered " + got + ", due is " + want);
        }
    }

    /** Tells how it went; each promise from the first to the last must have had a test. */
    void end(int first, int last) {
        endTest();
        int all = 0;
        for (int p = first; p <= last; p++) {
            all += tests[p];
            if (tests[p] == 0) {
                wrong++;
                System.out.println("promise " + p + " has no test");
            }
        }
        System.out.println(all + " sentences, " + asked + " asked, " + wrong + " wrong");
        if (wrong != 0) {
            System.exit(1);
        }
    }

    /** A text of which this is the FAULT. */
    void faulty(String text, int kind, int place) {
        SlopeChecker x = new SlopeChecker();
        due("text of " + text, tell(x, text), -1);
        due("fault(0) of " + text, x.fault(0), kind);
        due("fault(1) of " + text, x.fault(1), place);
    }

    /** A text of so many LINES, without a FAULT. */
    void right(String text, int lines) {
        SlopeChecker x = new SlopeChecker();
        due("text of " + text, tell(x, text), lines);
        due("fault(0) of " + text, x.fault(0), 0);
        due("fault(1) of " + text, x.fault(1), -1);
    }

    static void feedAll(SlopeChecker x, String s) {
        for (int at = 0; at < s.length(); at += 20) {
            int[] a = new int[5];
            for (int i = 0; i < 20; i++) {
                a[i / 4] = a[i / 4] << 8 | (at + i < s.length() ? s.charAt(at + i) & 255 : ' ');
            }
            x.feed(a[0], a[1], a[2], a[3], a[4]);
        }
    }

    static int tell(SlopeChecker x, String s) {
        feedAll(x, s);
        return x.text(s.length());
    }

    SlopeChecker told(String s) {
        SlopeChecker x = new SlopeChecker();
        if (tell(x, s) < 0) {
            fault("FAULT " + x.fault(0) + " at " + x.fault(1) + " of " + s);
        }
        return x;
    }

    SlopeChecker stepped(String s, int n) {
        SlopeChecker x = told(s);
        x.step(n);
        return x;
    }

    static String times(int n, String s) {
        StringBuilder b = new StringBuilder();
        for (int i = 0; i < n; i++) {
            b.append(s);
        }
        return b.toString();
    }

    /** What mode() answers; another number for each exception. */
    static int modeOr(SlopeChecker x, int m, int what) {
        try {
            return x.mode(m, what);
        } catch (IndexOutOfBoundsException e) {
            return OUT_OF_BOUNDS;
        } catch (NoSuchElementException e) {
            return NO_ELEMENT;
        }
    }

    /** What an object holds, as one number; some 200 of the 512 calls that it is used for. */
    static long print(SlopeChecker x) {
        long sum = 7;
        for (int what = 0; what < 9; what++) {
            sum = sum * 31 + x.check(what);
            sum = sum * 31 + (what == 6 ? 0 : x.count(what));
        }
        int modes = x.count(0);
        for (int i = 0; i < modes * 6; i++) {
            sum = sum * 31 + x.mode(i / 6, i % 6);
        }
        int edges = x.count(1);
        for (int i = 0; i < edges * 7; i++) {
            sum = sum * 31 + x.edge(i / 7, i % 7);
        }
        int parts = x.count(3);
        for (int i = 0; i < parts * 10; i++) {
            sum = sum * 31 + x.part(i / 10, i % 10);
        }
        int normals = x.count(2);
        for (int i = 0; i < parts * normals; i++) {
            sum = sum * 31 + x.limit(i / normals, 0, i % normals, 0);
            sum = sum * 31 + x.limit(i / normals, 1, i % normals, 0);
        }
        sum = sum * 31 + x.ended();
        for (int i = 0; i < 40; i++) {
            sum = sum * 31 + x.ridden(i / 8, i % 8);
        }
        return sum;
    }
}
