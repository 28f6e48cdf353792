import java.util.NoSuchElementException;

/** For each promise of the document what it says: ordinary calls, the edges it names, wrong inputs. */
public final class PromiseTest {
    private static final int NO_INT = Integer.MIN_VALUE;
    private static final long NO_LONG = Long.MIN_VALUE;

    /** Grows along x up to 10, jumps at x 4 or more into growth along y, from y 6 or more back to x 0. */
    private static final String BOUNCE = "mode a 1 0;mode b 0 1;keep a 1 0 10;edge a b;when -1 0 -4;"
        + "edge b a;when 0 -1 -6;put x 0;start a 0 2 0 0;harm b 0 -1 -8;";
    /** Each jump goes one to the right, and no growth covers what comes. */
    private static final String COUNTER = "mode a 0 0;start a 0 0 0 0;edge a a;add x 1;most 8;";
    /** One slope of 2 by 1 up to the line 3x + y = 10. */
    private static final String SLANT = "mode a 2 1;start a 0 0 0 0;keep a 3 1 10;";
    /** Each jump divides by 7, until the fractions are BEYOND. */
    private static final String SEVENTHS = "mode a 1 -7;keep a 0 -1 0;mode b -7 1;keep b -1 0 0;"
        + "edge a b;when 0 1 0;edge b a;when 1 0 0;start a 0 0 1 1;";
    /** Only what is JOINED, from 0 to 4, has harm between. */
    private static final String JOINED_HARM = "mode a 0 0;start a 0 0 0 0;edge a a;add x 4;when 1 0 0;"
        + "harm a 1 0 3;harm a -1 0 -1;most 1;";
    /** The first PART itself is BEYOND. */
    private static final String BEYOND_AT_ONCE =
        "mode a 2 -5;keep a 7 -8 547;keep a -8 8 717;keep a -9 -7 410;start a -590 836 523 650;";
    /** PART 1 is EXACT, but a TIME of its WAY is BEYOND. */
    private static final String NO_WAY =
        "mode a -8 -1;keep a -8 2 53;edge a a;when -8 -1 23;add y 3;start a -1 2 -7 -7;most 2;";
    /** PARTS that are EXACT, with what is BEYOND in their WAYS: x of OUT, y of OUT, x of IN, y of IN. */
    private static final String[] NO_WAYS = {
        "mode a 2 -9;harm a -3 9 -61;edge a a;when -4 9 9;put y 2;start a -7 -7 1 6;most 2;",
        "mode a -8 -5;keep a -7 -6 50;edge a a;put y 7;edge a a;start a 5 11 -16 -14;most 2;",
        "mode a -4 -3;keep a -4 -4 -7;keep a -8 3 5;edge a a;when 4 5 91;put x 2;start a 4 12 7 7;most 2;",
        "mode a -3 -8;mode b -4 -3;edge a b;when 7 -8 54;edge b a;start a 3 3 18 18;most 2;"};
    private static final int[] NO_WAYS_TO = {1, 1, 1, 3};
    /** Its deepest WAY takes times by 2401, 1600 and 729, together by more than 1000000000. */
    private static final String FINE_TIMES =
        "mode a 1 -7;keep a 0 -1 0;mode b -7 1;keep b -1 0 0;mode c 1 -5;keep c 0 -1 0;mode d -8 1;keep d -1 0 0;"
        + "mode e 1 -9;keep e 0 -1 0;mode f -9 1;keep f -1 0 0;start a 0 0 999 999;"
        + "edge a b;when 0 1 0;edge b a;when 1 0 0;when 0 -1 -1;"
        + "edge b c;when 1 0 0;when 0 1 1;put x 0;put y 999;edge c d;when 0 1 0;edge d c;when 1 0 0;when 0 -1 -1;"
        + "edge d e;when 1 0 0;when 0 1 1;put x 0;put y 998;edge e f;when 0 1 0;edge f e;when 1 0 0;when 0 -1 -9;"
        + "harm e 0 1 0;harm e 1 0 9;most 8;";

    private static int wrong = 0;
    private static int asked = 0;

    private static void due(String call, long got, long want) {
        asked++;
        if (got != want) {
            wrong++;
            System.out.println(call + " answered " + got + ", due is " + want);
        }
    }

    private static void feedAll(SlopeChecker x, String s) {
        for (int at = 0; at < s.length(); at += 20) {
            int[] a = new int[5];
            for (int i = 0; i < 20; i++) {
                a[i / 4] = a[i / 4] << 8 | (at + i < s.length() ? s.charAt(at + i) : ' ');
            }
            x.feed(a[0], a[1], a[2], a[3], a[4]);
        }
    }

    private static int tell(SlopeChecker x, String s) {
        feedAll(x, s);
        return x.text(s.length());
    }

    private static SlopeChecker told(String s) {
        SlopeChecker x = new SlopeChecker();
        if (tell(x, s) < 0) {
            due("text of " + s, x.fault(0), 0);
        }
        return x;
    }

    private static SlopeChecker stepped(String s, int n) {
        SlopeChecker x = told(s);
        x.step(n);
        return x;
    }

    private static void faulty(String s, int kind, int place) {
        SlopeChecker x = new SlopeChecker();
        due("text of " + s, tell(x, s), -1);
        due("fault(0) of " + s, x.fault(0), kind);
        due("fault(1) of " + s, x.fault(1), place);
    }

    private static void right(String s, int lines) {
        SlopeChecker x = new SlopeChecker();
        due("text of " + s, tell(x, s), lines);
        due("fault(0) of " + s, x.fault(0), 0);
        due("fault(1) of " + s, x.fault(1), -1);
    }

    private static String times(int n, String s) {
        StringBuilder b = new StringBuilder();
        for (int i = 0; i < n; i++) {
            b.append(s);
        }
        return b.toString();
    }

    private static void aNewObject() {
        SlopeChecker x = new SlopeChecker();
        due("NONE", SlopeChecker.NONE, -1);
        int[] counts = {0, 0, 4, 0, 0, 4, 0};
        for (int what = 0; what < counts.length; what++) {
            due("new count(" + what + ")", x.count(what), counts[what]);
        }
        int[] checks = {1, -2, -2, 0, 0, 0, 0, 0, 0};
        for (int what = 0; what < checks.length; what++) {
            due("new check(" + what + ")", x.check(what), checks[what]);
        }
        due("new fault(0)", x.fault(0), 0);
        due("new fault(1)", x.fault(1), -1);
        due("new ended()", x.ended(), -1);
        due("new followed()", x.followed(), -1);
        due("new step(60)", x.step(60), 0);
    }

    private static void feed() {
        SlopeChecker x = new SlopeChecker();
        for (int i = 1; i <= 45; i++) {
            due("feed " + i, x.feed(0, 0, 0, 0, 0), 20 * i);
        }
        due("feed 46", x.feed(0, 0, 0, 0, 0), -1);
        due("bytes of a full tape", x.count(6), 900);
        due("text of a full tape", x.text(900), -1);
        due("feed behind a text", x.feed(0x6d6f7374, 0x20333b20, 0x20202020, 0x0a0a2020, 0x20202020), 20);
        due("highest first", x.text(20), 1);
        due("what was fed", x.count(5), 3);
        x.feed(0x20ff2020, 0, 0, 0, 0);
        due("a byte above 127", x.text(20), -1);
        due("its place", x.fault(1), 1);
        String longest = "most 7;" + times(893, " ");
        due("900 bytes are a text", tell(x, longest), 1);
        due("900 bytes are read", x.count(5), 7);
    }

    private static void text() {
        SlopeChecker x = stepped(BOUNCE, 2);
        x.ride(0, 0, 0, 1, 3);
        due("text(-1)", x.text(-1), -2);
        due("text(1) of an empty tape", x.text(1), -2);
        feedAll(x, "mode");
        due("text(21) of 20", x.text(21), -2);
        due("the tape stays", x.count(6), 20);
        due("a fault", x.text(4), -1);
        due("the tape is empty", x.count(6), 0);
        due("steps stay", x.count(4), 2);
        due("parts stay", x.count(3), 3);
        due("the ride stays", x.ended(), 3);
        due("normals stay", x.count(2), 4);
        due("the rest of the tape is gone", tell(x, "most 2;"), 1);
        due("steps anew", x.count(4), 0);
        due("parts anew", x.count(3), 0);
        due("modes anew", x.count(0), 0);
        due("edges anew", x.count(1), 0);
        due("the ride anew", x.ended(), -1);
        due("most", x.count(5), 2);
        due("text(0)", x.text(0), 0);
        due("most anew", x.count(5), 4);
        due("lines", tell(x, BOUNCE), 10);
        due("parts of lines", x.count(3), 1);
        due("again", tell(x, SEVENTHS), 9);
        due("normals anew", x.count(2), 8);
        due("again, smaller", tell(x, SLANT), 3);
        due("normals anew, smaller", x.count(2), 7);
        String done = "mode a 0 0;keep a 1 0 1;harm a 1 0 1;edge a a;when 1 0 1;put x 3;put y 4;";
        due("what is done", tell(x, done), 7);
        due("what is done, again", tell(x, done), 7);
        due("nothing is done", tell(x, "mode a 0 0;edge a a;"), 2);
        for (int what = 2; what < 7; what++) {
            due("nothing is done, " + what, x.edge(0, what), 0);
        }
        due("nothing is kept", x.mode(0, 2), 0);
        due("nothing is harm", x.mode(0, 3), 0);
        due("only the first bytes", tell(x, "most 5;most 6;"), -1);
        feedAll(x, "most 5;most 6;");
        due("only the first bytes", x.text(7), 1);
    }

    private static void faultsOfTokens() {
        right("", 0);
        right(" \n ", 0);
        right("mode a 1 0;", 1);
        right("\nmode\na - 1\n-  9 ;\n", 1);
        right("mode abcdef 0009 0;", 1);
        right("mode z 0 0;mode zzzzzz 0 0;keep zzzzzz 1 0 1;edge z zzzzzz;", 4);
        faulty(";", 1, 0);
        faulty("modes a 1 0;", 1, 0);
        faulty("x;", 1, 0);
        faulty("7;", 1, 0);
        faulty("mode", 1, 4);
        faulty("mode  ", 1, 6);
        faulty("mode 1 1 0;", 1, 5);
        faulty("mode A 1 0;", 1, 5);
        faulty("mode\ta 1 0;", 1, 4);
        faulty("mode abcdefg 1 0;", 1, 5);
        faulty("mode a b 0;", 1, 7);
        faulty("mode a 1;", 1, 8);
        faulty("mode a 1 0", 1, 10);
        faulty("mode a 1 0 \n", 1, 12);
        faulty("mode a 1 0 0;", 1, 11);
        faulty("mode a 1 0,", 1, 10);
        faulty("mode a 1 +1;", 1, 9);
        faulty("mode a -x 0;", 1, 8);
        faulty("mode a --1 0;", 1, 8);
        faulty("mode a - ", 1, 9);
        String[] language = {"mode", "keep", "harm", "edge", "when", "put", "add", "start", "most", "x", "y"};
        for (String w : language) {
            faulty("mode " + w + " 1 0;", 1, 5);
        }
        faulty("keep b 1 0 1;", 1, 5);
        faulty("harm b 1 0 1;", 1, 5);
        faulty("start b 0 0 0 0;", 1, 6);
        faulty("mode a 0 0;keep b 1 0 1;", 1, 16);
        faulty("mode a 0 0;edge b a;", 1, 16);
        faulty("mode a 0 0;edge a b;mode b 0 0;", 1, 18);
        faulty("when 1 0 1;", 1, 0);
        faulty("put x 1;", 1, 0);
        faulty("add x 1;", 1, 0);
        faulty("mode a 0 0;edge a a;put z 1;", 1, 24);
        faulty("mode a 0 0;edge a a;add 1 1;", 1, 24);
    }

    private static void faultsOfNumbers() {
        right("mode a 9 -9;", 1);
        faulty("mode a 10 0;", 2, 7);
        faulty("mode a 0 10;", 2, 9);
        faulty("mode a - 10 0;", 2, 7);
        faulty("mode a 0 -10;", 2, 9);
        faulty("mode a 99999999999999999999 0;", 2, 7);
        faulty("mode a 4294967297 0;", 2, 7);
        String a = "mode a 0 0;";
        right(a + "keep a 9 -9 999;harm a -9 9 -999;", 3);
        faulty(a + "keep a 10 0 1;", 2, 18);
        faulty(a + "keep a 0 -10 1;", 2, 20);
        faulty(a + "keep a 0 0 1;", 2, 20);
        faulty(a + "keep a 0 -0 1;", 2, 20);
        faulty(a + "keep a 0 - 0 1;", 2, 20);
        faulty(a + "keep a 1 0 1000;", 2, 22);
        faulty(a + "harm a 1 0 -1000;", 2, 22);
        right(a + "start a -999 999 -999 999;", 2);
        right(a + "start a 5 5 -5 -5;", 2);
        faulty(a + "start a -1000 0 0 0;", 2, 19);
        faulty(a + "start a 1 0 0 0;", 2, 21);
        faulty(a + "start a 0 0 1 -1;", 2, 25);
        faulty(a + "start a 0 0 0 1000;", 2, 25);
        String e = a + "edge a a;";
        right(e + "put x 999;add y -999;", 4);
        faulty(e + "put x 1000;", 2, 26);
        faulty(e + "add y -1000;", 2, 26);
        right("most 1;", 1);
        faulty("most 0;", 2, 5);
        faulty("most 9;", 2, 5);
        faulty("most -1;", 2, 5);
    }

    private static void faultsOfTooMany() {
        String six = "mode a 0 0;mode b 0 0;mode c 0 0;mode d 0 0;mode e 0 0;mode f 0 0;";
        right(six, 6);
        faulty(six + "mode g 0 0;", 2, six.length());
        faulty(six + "mode a 99 0;", 2, six.length());
        String a = "mode a 0 0;";
        right(a + times(4, "keep a 1 0 1;") + times(3, "harm a 1 0 1;"), 8);
        faulty(a + times(5, "keep a 1 0 1;"), 2, 63);
        faulty(a + times(4, "keep a 1 0 1;") + "keep a 99", 2, 63);
        faulty(a + times(4, "harm a 1 0 1;"), 2, 50);
        right(a + times(10, "edge a a;"), 11);
        faulty(a + times(11, "edge a a;"), 2, 101);
        faulty(a + times(10, "edge a a;") + "edge b", 2, 101);
        right(a + "edge a a;" + times(4, "when 1 0 1;"), 6);
        faulty(a + "edge a a;" + times(5, "when 1 0 1;"), 2, 64);
        right(a + times(2, "edge a a;" + times(4, "when 1 0 1;")), 11);
        right(six + "keep a 1 0 1;keep b 1 0 1;keep a 1 0 1;keep b 1 0 1;keep a 1 0 1;keep b 1 0 1;", 12);
        // 22 NORMALS: four, ten of modes, eight of bounds
        String many = "mode a 1 2;mode b 1 3;mode c 1 4;mode d 1 5;mode e 1 6;"
            + "keep a 7 1 1;keep a 7 2 1;keep a 7 3 1;keep a 7 4 1;keep b 7 5 1;keep b 7 6 1;keep b 8 1 1;keep b 8 3 1;";
        right(many + "keep c 8 5 1;keep c 8 7 1;keep c 8 7 2;keep d 2 -1 5;harm d 7 4 0;", 18);
        faulty(many + "keep c 8 5 1;keep c 8 7 1;keep c 9 1 1;", 2, many.length() + 26);
        faulty(many + "keep c 8 5 1;keep c 8 7 1;keep c 9 1 x", 2, many.length() + 26);
        faulty(many + "keep c 8 5 1;keep c 8 7 1;keep c 9 x", 1, many.length() + 35);
        faulty(many + "keep c 8 5 1;keep c 8 7 1;edge a a;when 9 1 1;", 2, many.length() + 35);
        right(many + "mode f 1 7;", 14);
        faulty(many + "keep c 8 5 1;mode f 1 7;", 2, many.length() + 13);
        faulty(many + "keep c 8 5 1;mode f 1 7", 2, many.length() + 13);
        faulty(many + "keep c 8 5 1;mode f 1 70;", 2, many.length() + 22);
        right(many + "keep c 8 5 1;mode f 2 4;", 15);
    }

    private static void faultsOfToldAlready() {
        faulty("mode a 1 0;mode a 0 1;", 3, 16);
        faulty("mode a 1 0;start a 0 0 0 0;start a 0 0 0 0;", 3, 27);
        faulty("mode a 1 0;start a 0 0 0 0;start b", 3, 27);
        faulty("most 4;most 4;", 3, 7);
        faulty("most 4;most 99;", 3, 7);
        String e = "mode a 0 0;edge a a;";
        right(e + "put x 1;add y 1;", 4);
        right(e + "put x 1;edge a a;put x 1;", 5);
        faulty(e + "put x 1;put x 1;", 3, 28);
        faulty(e + "put x 0;add x 1;", 3, 28);
        faulty(e + "add y 0;put y 1;", 3, 28);
        faulty(e + "add y 1;add y 9999;", 3, 28);
    }

    private static void fault() {
        faultsOfTokens();
        faultsOfNumbers();
        faultsOfTooMany();
        faultsOfToldAlready();
        SlopeChecker x = new SlopeChecker();
        tell(x, "most 0;");
        due("fault(2)", x.fault(2), -1);
        due("fault(-1)", x.fault(-1), -1);
        x.text(5);
        due("fault(0) behind -2", x.fault(0), 2);
        due("fault(1) behind -2", x.fault(1), 5);
        tell(x, "most 1;");
        due("fault(0) mended", x.fault(0), 0);
        due("fault(1) mended", x.fault(1), -1);
    }

    private static void step() {
        SlopeChecker x = told(BOUNCE);
        due("step(0)", x.step(0), -1);
        due("step(61)", x.step(61), -1);
        due("step(-1)", x.step(-1), -1);
        due("no step done", x.count(4), 0);
        due("step(1)", x.step(1), 1);
        due("parts behind one", x.count(3), 2);
        due("step(60)", x.step(60), 2);
        due("step(60) behind all", x.step(60), 0);
        due("steps", x.count(4), 3);
        SlopeChecker full = told(COUNTER);
        due("steps up to the 61st part", full.step(60), 60);
        due("parts", full.count(3), 60);
        due("no step behind a stop", full.step(60), 0);
        // both PARTS that are made ahead of the stop stay OPEN, but nothing goes on
        SlopeChecker stop = told("mode a 0 0;edge a a;add x 1;edge a a;add y 1;start a 0 0 0 0;most 8;");
        int done = stop.step(60);
        due("it is full", stop.check(3), 2);
        due("parts are left", bit(stop.check(4) > 0), 1);
        due("steps end", stop.step(60), 0);
        due("steps told", stop.count(4), done);
        SlopeChecker fine = told(SEVENTHS);
        due("steps up to BEYOND, that one too", fine.step(60), 4);
        due("why", fine.check(3), 1);
        due("parts up to BEYOND", fine.count(3), 4);
        due("no step behind BEYOND", fine.step(1), 0);
        SlopeChecker none = told(BEYOND_AT_ONCE);
        due("none if the first is BEYOND", none.step(1), 0);
    }

    private static int bit(boolean b) {
        return b ? 1 : 0;
    }

    private static void check() {
        SlopeChecker x = told(BOUNCE);
        due("not safe, it is open", x.check(0), 0);
        due("open", x.check(4), 1);
        x.step(60);
        int[] bounce = {0, 1, 1, 0, 0, 0, 1, 1, 0};
        int[] counter = {0, -2, -2, 2, 0, 52, 0, 0, 52};
        SlopeChecker y = stepped(COUNTER, 60);
        for (int what = 0; what < 9; what++) {
            due("bounce check(" + what + ")", x.check(what), bounce[what]);
            due("counter check(" + what + ")", y.check(what), counter[what]);
        }
        due("check(-1)", x.check(-1), -1);
        due("check(9)", x.check(9), -1);
        SlopeChecker safe = stepped(SLANT, 1);
        due("safe", safe.check(0), 1);
        SlopeChecker none = told(BEYOND_AT_ONCE);
        due("no first part: why", none.check(3), 1);
        due("no first part: parts", none.count(3), 0);
        due("no first part: not safe", none.check(0), 0);
        due("no first part: none open", none.check(4), 0);
        SlopeChecker empty = told("mode a 1 0;keep a 1 0 5;start a 6 9 0 0;");
        due("an empty entry: parts", empty.count(3), 0);
        due("an empty entry: safe", empty.check(0), 1);
        due("an empty entry: why", empty.check(3), 0);
        // the first HARMED PART is JOINED, so that none that is EXACT is harmed
        SlopeChecker joined = stepped("mode a 0 0;start a 0 0 0 0;edge a a;add x 1;most 2;harm a -1 0 -3;", 3);
        due("first harmed", joined.check(1), 3);
        due("first exact harmed", joined.check(2), -2);
        due("that is joined", joined.part(3, 4), 0);
        // a PART that is GONE stays HARMED
        joined.step(1);
        due("gone", joined.part(3, 6), 1);
        due("gone and harmed", joined.part(3, 7), 1);
        due("harmed", joined.check(6), 2);
        SlopeChecker onlyJoined = stepped(JOINED_HARM, 60);
        due("closed", onlyJoined.check(4), 0);
        due("no stop", onlyJoined.check(3), 0);
        due("harmed by what is joined alone", onlyJoined.check(1), 1);
        due("that isn't exact", onlyJoined.check(2), -2);
        due("so it isn't safe", onlyJoined.check(0), 0);
        due("the first is gone", onlyJoined.check(5), 1);
        due("the first is harmed, not safe", stepped("mode a 0 0;harm a 1 0 1;start a 0 0 0 0;", 1).check(0), 0);
        SlopeChecker covered = stepped("mode a 1 0;start a 0 0 0 0;edge a a;", 60);
        due("covered by the first", covered.check(7), 1);
        due("one part", covered.count(3), 1);
        due("harm at the edge of a set", stepped("mode a 1 0;keep a 1 0 7;harm a -1 0 -7;start a 0 0 0 0;", 1).check(6), 1);
        due("harm just off a set", stepped("mode a 1 0;keep a 1 0 7;harm a -1 0 -8;start a 0 0 0 0;", 1).check(6), 0);
        due("all bounds of harm must hold",
            stepped("mode a 1 0;keep a 1 0 7;harm a -1 0 -3;harm a 1 0 2;start a 0 0 0 0;", 1).check(0), 1);
    }

    private static long modeOr(SlopeChecker x, int m, int what) {
        try {
            return x.mode(m, what);
        } catch (IndexOutOfBoundsException e) {
            return 10001;
        } catch (NoSuchElementException e) {
            return 10002;
        }
    }

    private static void mode() {
        SlopeChecker x = stepped(BOUNCE, 60);
        int[][] want = {{1, 0, 1, 0, 1, 2}, {0, 1, 0, 1, 1, 1}};
        for (int m = 0; m < 2; m++) {
            for (int what = 0; what < 6; what++) {
                due("mode(" + m + ", " + what + ")", modeOr(x, m, what), want[m][what]);
            }
        }
        due("mode(2, 0)", modeOr(x, 2, 0), 10001);
        due("mode(-1, 0)", modeOr(x, -1, 0), 10001);
        due("mode(0, 6)", modeOr(x, 0, 6), 10002);
        due("mode(0, -1)", modeOr(x, 0, -1), 10002);
        due("mode(2, 6)", modeOr(x, 2, 6), 10001);
        SlopeChecker chain = told("mode a 0 0;mode b 0 0;mode c 0 0;edge a b;edge b c;edge a c;");
        due("edges from the first", modeOr(chain, 0, 4), 2);
        due("edges from the second", modeOr(chain, 1, 4), 1);
        due("edges from the third", modeOr(chain, 2, 4), 0);
        due("PARTS that aren't GONE", modeOr(stepped(COUNTER, 60), 0, 5), 8);
        due("a slope below 0", modeOr(told(SEVENTHS), 1, 0), -7);
    }

    private static void edge() {
        SlopeChecker x = told("mode a 0 0;mode b 0 0;edge a b;edge b a;when 1 0 3;when 0 1 3;put x -5;add y 7;"
            + "edge b b;add x 0;put y 0;");
        int[][] want = {{0, 1, 0, 0, 0, 0, 0}, {1, 0, 2, 1, -5, 2, 7}, {1, 1, 0, 2, 0, 1, 0}};
        for (int e = 0; e < 3; e++) {
            for (int what = 0; what < 7; what++) {
                due("edge(" + e + ", " + what + ")", x.edge(e, what), want[e][what]);
            }
        }
        due("edge(3, 0)", x.edge(3, 0), -1000);
        due("edge(-1, 0)", x.edge(-1, 0), -1000);
        due("edge(0, 7)", x.edge(0, 7), -1000);
        due("edge(0, -1)", x.edge(0, -1), -1000);
    }

    private static void normal() {
        SlopeChecker x = told("mode a 2 4;keep a 6 9 1;mode b 0 0;harm b 0 5 1;keep a -4 6 1;mode c -3 0;"
            + "edge a a;when 3 2 1;harm a -2 -3 1;");
        int[][] want = {{1, 0}, {-1, 0}, {0, 1}, {0, -1}, {-2, 1}, {2, -1}, {2, 3}, {-2, 3}, {3, 2}, {-2, -3}};
        due("normals", x.count(2), want.length);
        for (int k = 0; k < want.length; k++) {
            due("normal(" + k + ", 0)", x.normal(k, 0), want[k][0]);
            due("normal(" + k + ", 1)", x.normal(k, 1), want[k][1]);
            due("normalOf of " + k, x.normalOf(want[k][0], want[k][1]), k);
        }
        due("normal(10, 0)", x.normal(10, 0), -1000);
        due("normal(-1, 0)", x.normal(-1, 0), -1000);
        due("normal(0, 2)", x.normal(0, 2), -1000);
        due("normal(0, -1)", x.normal(0, -1), -1000);
    }

    private static void normalOf() {
        SlopeChecker x = told("mode a 2 4;");
        due("normalOf(-2, 1)", x.normalOf(-2, 1), 4);
        due("normalOf(-4, 2)", x.normalOf(-4, 2), -2);
        due("normalOf(2, 0)", x.normalOf(2, 0), -2);
        due("normalOf(0, 0)", x.normalOf(0, 0), -2);
        due("normalOf(1, -2)", x.normalOf(1, -2), -2);
        due("normalOf of far ones", x.normalOf(NO_INT, Integer.MAX_VALUE), -2);
    }

    private static void part() {
        SlopeChecker x = stepped(BOUNCE, 2);
        int[][] want = {
            {0, -2, -2, 0, 1, 0, 0, 0, 2, 2},
            {1, 0, 0, 1, 1, 0, 0, 1, 4, 2},
            {0, 1, 1, 2, 1, 1, 0, 0, 4, 2},
        };
        for (int p = 0; p < 3; p++) {
            for (int what = 0; what < 10; what++) {
                due("part(" + p + ", " + what + ")", x.part(p, what), want[p][what]);
            }
        }
        due("part(3, 0)", x.part(3, 0), -1);
        due("part(-1, 0)", x.part(-1, 0), -1);
        due("part(0, 10)", x.part(0, 10), -1);
        due("part(0, -1)", x.part(0, -1), -1);
        SlopeChecker y = stepped(COUNTER, 9);
        int[] joined = {0, 8, 0, 9, 0, 1, 0, 0, 2, 2};
        for (int what = 0; what < 10; what++) {
            due("joined part(9, " + what + ")", y.part(9, what), joined[what]);
        }
        due("gone", y.part(8, 6), 1);
        due("gone is open no more", y.part(8, 5), 0);
        due("what comes from one that isn't EXACT", y.part(9, 4), 0);
        // MOST 1: the PART taken is the one that is GONE, and its next EDGE is taken all the same
        SlopeChecker z = stepped("mode a 0 0;start a 0 0 0 0;edge a a;add x 1;edge a a;add y 1;most 1;", 1);
        due("parts by both edges", z.count(3), 3);
        due("first is gone", z.part(0, 6), 1);
        due("second is gone", z.part(1, 6), 1);
        due("second is open no more", z.part(1, 5), 0);
        due("third came from the first", z.part(2, 1), 0);
        due("third by the second edge", z.part(2, 2), 1);
        due("x of the third", z.limit(2, 1, 0, 0), 1);
        due("y of the third", z.limit(2, 1, 2, 0), 1);
        due("joined", z.check(8), 2);
    }

    private static void limit() {
        SlopeChecker x = told(SLANT);
        int[][] set = {{20, 7}, {0, 1}, {10, 7}, {0, 1}, {0, 1}, {0, 1}, {10, 1}};
        for (int k = 0; k < set.length; k++) {
            due("limit(0, 1, " + k + ", 0)", x.limit(0, 1, k, 0), set[k][0]);
            due("limit(0, 1, " + k + ", 1)", x.limit(0, 1, k, 1), set[k][1]);
            due("limit(0, 0, " + k + ", 0)", x.limit(0, 0, k, 0), 0);
            due("limit(0, 0, " + k + ", 1)", x.limit(0, 0, k, 1), 1);
        }
        due("limit of no part", x.limit(1, 1, 0, 0), NO_INT);
        due("limit of part -1", x.limit(-1, 1, 0, 0), NO_INT);
        due("limit of which 2", x.limit(0, 2, 0, 0), NO_INT);
        due("limit of which -1", x.limit(0, -1, 0, 0), NO_INT);
        due("limit of no normal", x.limit(0, 1, 7, 0), NO_INT);
        due("limit of normal -1", x.limit(0, 1, -1, 0), NO_INT);
        due("limit of what 2", x.limit(0, 1, 0, 2), NO_INT);
        due("limit of what -1", x.limit(0, 1, 0, -1), NO_INT);
        SlopeChecker y = told("mode a 0 -1;start a 0 9 0 0;keep a 2 -3 21;");
        due("a bound by fractions", y.limit(0, 1, 3, 0), 7);
        SlopeChecker z = told("mode a 0 0;keep a 4 6 9;start a 0 999 0 999;");
        due("C by what divides A and B", z.limit(0, 1, z.normalOf(2, 3), 0), 9);
        due("C by what divides A and B, below", z.limit(0, 1, z.normalOf(2, 3), 1), 2);
        due("tight by that", z.limit(0, 1, 0, 0), 9);
        due("tight by that, below", z.limit(0, 1, 0, 1), 4);
        due("growth ends at 1000", told("mode a 3 -1;start a 0 0 0 0;").limit(0, 1, 0, 0), 1000);
        // put takes y alone, add moves, what comes is cut by what is kept
        SlopeChecker w = stepped("mode a 0 0;mode b 0 0;keep b 0 1 7;start a 0 2 3 9;edge a b;put x 5;add y 1;", 1);
        int[] entry = {5, -5, 7, -4};
        for (int k = 0; k < 4; k++) {
            due("entry behind put and add, " + k, w.limit(1, 0, k, 0), entry[k]);
        }
        SlopeChecker far = stepped("mode a 0 0;start a 990 999 0 0;edge a a;add x 8;", 1);
        due("cut at 1000", far.limit(1, 1, 0, 0), 1000);
        due("cut at 1000, from", far.limit(1, 1, 1, 0), -998);
        SlopeChecker joined = stepped(COUNTER, 8);
        due("joined, to", joined.limit(8, 1, 0, 0), 8);
        due("joined, from", joined.limit(8, 1, 1, 0), -7);
        due("its entry", joined.limit(8, 0, 1, 0), -8);
        // what is JOINED is GROWN again, here into the whole of what lies to the right
        SlopeChecker grown = stepped("mode a 1 0;start a 5 5 5 5;edge a a;put x 0;add y -5;most 1;keep a 0 -1 0;", 1);
        due("joined and grown, least x", grown.limit(1, 1, 1, 0), 0);
        due("joined and grown, most y", grown.limit(1, 1, 2, 0), 5);
        due("joined and grown, most x", grown.limit(1, 1, 0, 0), 1000);
    }

    private static void corner() {
        SlopeChecker x = told("mode a 0 0;start a 0 999 0 999;keep a 2 1 7;keep a 1 3 9;");
        long[][] set = {{0, 1, 0, 1}, {0, 1, 3, 1}, {12, 5, 11, 5}, {7, 2, 0, 1}};
        due("corners", x.part(0, 8), 4);
        for (int i = 0; i < 4; i++) {
            for (int what = 0; what < 4; what++) {
                due("corner(0, 1, " + i + ", " + what + ")", x.corner(0, 1, i, what), set[i][what]);
                due("corner(0, 0, " + i + ", " + what + ")", x.corner(0, 0, i, what), set[i][what]);
            }
        }
        due("corner 4", x.corner(0, 1, 4, 0), NO_LONG);
        due("corner -1", x.corner(0, 1, -1, 0), NO_LONG);
        due("corner of what 4", x.corner(0, 1, 0, 4), NO_LONG);
        due("corner of what -1", x.corner(0, 1, 0, -1), NO_LONG);
        due("corner of which 2", x.corner(0, 2, 0, 0), NO_LONG);
        due("corner of which -1", x.corner(0, -1, 0, 0), NO_LONG);
        due("corner of no part", x.corner(1, 1, 0, 0), NO_LONG);
        due("corner of part -1", x.corner(-1, 1, 0, 0), NO_LONG);
        // a segment and a point, with many normals at their ends
        SlopeChecker y = told("mode a 2 1;keep a 3 1 10;keep a 1 0 999;harm a 1 2 5;harm a 5 3 9;start a 0 0 0 0;");
        due("corners of a segment", y.part(0, 8), 2);
        due("corners of a point", y.part(0, 9), 1);
        due("x of its end", y.corner(0, 1, 1, 0), 20);
        due("x of its end, below", y.corner(0, 1, 1, 1), 7);
        due("y of its end", y.corner(0, 1, 1, 2), 10);
        due("y of its end, below", y.corner(0, 1, 1, 3), 7);
        SlopeChecker z = told("mode a 0 0;start a -2 3 -5 7;");
        long[] xs = {-2, -2, 3, 3};
        long[] ys = {-5, 7, -5, 7};
        for (int i = 0; i < 4; i++) {
            due("x of corner " + i, z.corner(0, 1, i, 0), xs[i]);
            due("y of corner " + i, z.corner(0, 1, i, 2), ys[i]);
        }
    }

    private static void has() {
        SlopeChecker x = told(SLANT);
        due("on the slope", x.has(0, 1, 10, 5, 7), 1);
        due("off the slope", x.has(0, 1, 10, 4, 7), 0);
        due("its end", x.has(0, 1, 20, 10, 7), 1);
        due("behind its end", x.has(0, 1, 22, 11, 7), 0);
        due("not in the entry", x.has(0, 0, 10, 5, 7), 0);
        due("in the entry", x.has(0, 0, 0, 0, 30), 1);
        due("far away", x.has(0, 1, 30000, -30000, 1), 0);
        due("x above", x.has(0, 1, 30001, 0, 1), -1);
        due("x below", x.has(0, 1, -30001, 0, 1), -1);
        due("y above", x.has(0, 1, 0, 30001, 1), -1);
        due("y below", x.has(0, 1, 0, -30001, 1), -1);
        due("n 0", x.has(0, 1, 0, 0, 0), -1);
        due("n 31", x.has(0, 1, 0, 0, 31), -1);
        due("n -1", x.has(0, 1, 0, 0, -1), -1);
        due("which 2", x.has(0, 2, 0, 0, 1), -1);
        due("which -1", x.has(0, -1, 0, 0, 1), -1);
        due("no part", x.has(1, 1, 0, 0, 1), -1);
        due("part -1", x.has(-1, 1, 0, 0, 1), -1);
    }

    private static void where() {
        SlopeChecker x = stepped(BOUNCE, 60);
        due("in the first", x.where(0, 5, 0, 1), 0);
        due("in the third", x.where(0, 5, 7, 1), 2);
        due("in none", x.where(0, 5, 3, 1), -2);
        due("in the second", x.where(1, 9, 2, 2), 1);
        due("of another mode", x.where(1, 3, 0, 1), -2);
        due("mode 2", x.where(2, 0, 0, 1), -1);
        due("mode -1", x.where(-1, 0, 0, 1), -1);
        due("x", x.where(0, 30001, 0, 1), -1);
        due("y", x.where(0, 0, -30001, 1), -1);
        due("n 0", x.where(0, 0, 0, 0), -1);
        due("n 31", x.where(0, 0, 0, 31), -1);
        SlopeChecker y = stepped(COUNTER, 8);
        due("not in one that is gone", y.where(0, 7, 0, 1), 8);
        due("in one that isn't", y.where(0, 6, 0, 1), 6);
    }

    private static void within() {
        SlopeChecker x = stepped(BOUNCE, 60);
        due("in itself", x.within(1, 1), 1);
        due("not within", x.within(2, 1), 0);
        due("not within, turned", x.within(1, 2), 0);
        due("no part", x.within(0, 3), -1);
        due("no part, turned", x.within(3, 0), -1);
        due("part -1", x.within(-1, 0), -1);
        SlopeChecker y = stepped("mode a 1 0;mode b 0 0;start a 0 0 0 0;edge a b;when 1 0 5;", 1);
        due("of another mode", y.within(1, 0), 1);
        due("of another mode, turned", y.within(0, 1), 0);
        due("of one that is gone", stepped(COUNTER, 8).within(7, 8), 1);
    }

    private static void meets() {
        SlopeChecker x = stepped(BOUNCE, 60);
        due("its edge", x.meets(1, -1, 0, -10), 1);
        due("behind it", x.meets(1, -1, 0, -11), 0);
        due("by 2", x.meets(1, -2, 0, -20), 1);
        due("by 2, a half behind", x.meets(1, -2, 0, -21), 0);
        due("all", x.meets(1, 0, 1, 999), 1);
        due("the first normal", x.meets(1, 1, 0, 4), 1);
        due("the first normal, ahead of it", x.meets(1, 1, 0, 3), 0);
        due("no normal", x.meets(1, 1, 1, 5), -2);
        due("no normal of no part", x.meets(9, 1, 1, 5), -1);
        due("both 0", x.meets(1, 0, 0, 1), -1);
        due("A 10", x.meets(1, 10, 0, 1), -1);
        due("A -10", x.meets(1, -10, 0, 1), -1);
        due("B 10", x.meets(1, 0, 10, 1), -1);
        due("B -10", x.meets(1, 0, -10, 1), -1);
        due("C 1000", x.meets(1, 1, 0, 1000), -1);
        due("C -1000", x.meets(1, 1, 0, -1000), -1);
        due("part -1", x.meets(-1, 1, 0, 1), -1);
        // the NORMAL turned about isn't one: the least of 3x + y is found all the same
        SlopeChecker y = told(SLANT);
        due("least of 3x + y", y.meets(0, 3, 1, 0), 1);
        due("below the least of 3x + y", y.meets(0, 3, 1, -1), 0);
    }

    private static void way() {
        SlopeChecker x = stepped(BOUNCE, 60);
        due("way(0)", x.way(0), 1);
        due("way(1)", x.way(1), 2);
        due("way(2)", x.way(2), 3);
        due("way(3)", x.way(3), -1);
        due("way(-1)", x.way(-1), -1);
        SlopeChecker y = stepped(COUNTER, 10);
        due("to one that isn't exact", y.way(8), -2);
        due("to one that is gone, but exact", y.way(7), 8);
        SlopeChecker z = stepped(NO_WAY, 1);
        due("it is exact", z.part(1, 4), 1);
        due("but BEYOND", z.way(1), -3);
        due("way(0) is there", z.way(0), 1);
        for (int i = 0; i < NO_WAYS.length; i++) {
            SlopeChecker w = stepped(NO_WAYS[i], 20);
            due("exact, " + i, w.part(NO_WAYS_TO[i], 4), 1);
            due("BEYOND, " + i, w.way(NO_WAYS_TO[i]), -3);
        }
    }

    private static void places(SlopeChecker x, int p, int[][] want) {
        for (int i = 0; i < want.length; i++) {
            for (int what = 0; what < 11; what++) {
                due("onWay(" + p + ", " + i + ", " + what + ")", x.onWay(p, i, what), want[i][what]);
            }
        }
        due("onWay(" + p + ") behind its last", x.onWay(p, want.length, 0), NO_INT);
    }

    private static void onWay() {
        SlopeChecker x = stepped(BOUNCE, 60);
        places(x, 1, new int[][] {{0, 2, 1, 0, 1, 4, 1, 0, 1, 2, 1}, {1, 4, 1, 0, 1, 4, 1, 8, 1, 8, 1}});
        places(x, 2, new int[][] {{0, 2, 1, 0, 1, 4, 1, 0, 1, 2, 1}, {1, 4, 1, 0, 1, 4, 1, 6, 1, 6, 1},
            {2, 0, 1, 6, 1, 0, 1, 6, 1, 0, 1}});
        due("place -1", x.onWay(1, -1, 0), NO_INT);
        due("what 11", x.onWay(1, 0, 11), NO_INT);
        due("what -1", x.onWay(1, 0, -1), NO_INT);
        due("part 3", x.onWay(3, 0, 0), NO_INT);
        due("part -1", x.onWay(-1, 0, 0), NO_INT);
        due("not exact", stepped(COUNTER, 10).onWay(8, 0, 0), NO_INT);
        due("none", stepped(NO_WAY, 1).onWay(1, 0, 0), NO_INT);
        // by fractions
        places(stepped(SEVENTHS, 60), 2, new int[][] {
            {0, 0, 1, 1, 1, 1, 7, 0, 1, 1, 7}, {1, 1, 7, 0, 1, 0, 1, 1, 49, 1, 49}, {2, 0, 1, 1, 49, 0, 1, 1, 49, 0, 1}});
        // put of y: of what leads there, with x as it is, the least y; harm to be met at the least x
        places(stepped("mode a 0 1;mode b 1 0;start a 3 5 -4 9;edge a b;when 0 -1 2;put y 1;harm b -2 0 -9;", 1), 1,
            new int[][] {{0, 9, 2, -2, 1, 9, 2, -2, 1, 0, 1}, {1, 9, 2, 1, 1, 9, 2, 1, 1, 0, 1}});
        // put of x with add of y
        places(stepped("mode a 1 1;mode b 0 0;start a 0 0 0 0;edge a b;when 0 -1 -5;put x 2;add y 3;harm b 0 -1 -9;", 1), 1,
            new int[][] {{0, 0, 1, 0, 1, 6, 1, 6, 1, 6, 1}, {1, 2, 1, 9, 1, 2, 1, 9, 1, 0, 1}});
        // put of both: the least x of all that hold the guard, then the least y
        places(stepped("mode a 1 -1;mode b 0 0;start a 0 4 0 4;edge a b;when -1 0 -3;put x 0;put y 0;", 1), 1,
            new int[][] {{0, 0, 1, 0, 1, 3, 1, -3, 1, 3, 1}, {1, 0, 1, 0, 1, 0, 1, 0, 1, 0, 1}});
        // a slope of 0, 0 takes no time; add leads back to where it was
        places(stepped("mode a 0 0;start a 1 2 3 4;edge a a;add x -2;add y 5;", 1), 1,
            new int[][] {{0, 1, 1, 3, 1, 1, 1, 3, 1, 0, 1}, {1, -1, 1, 8, 1, -1, 1, 8, 1, 0, 1}});
    }

    private static void wayTime() {
        SlopeChecker x = stepped(BOUNCE, 60);
        due("wayTime(1, 0)", x.wayTime(1, 0), 10);
        due("wayTime(1, 1)", x.wayTime(1, 1), 1);
        due("wayTime(2, 0)", x.wayTime(2, 0), 8);
        due("wayTime(0, 0)", x.wayTime(0, 0), 0);
        due("wayTime(0, 1)", x.wayTime(0, 1), 1);
        due("what 2", x.wayTime(1, 2), -1);
        due("what -1", x.wayTime(1, -1), -1);
        due("part 3", x.wayTime(3, 0), -1);
        due("part -1", x.wayTime(-1, 0), -1);
        SlopeChecker sevenths = stepped(SEVENTHS, 60);
        due("1/7 and 1/49 above", sevenths.wayTime(2, 0), 8);
        due("1/7 and 1/49 below", sevenths.wayTime(2, 1), 49);
        SlopeChecker joined = stepped(COUNTER, 10);
        due("not exact", joined.wayTime(8, 0), -2);
        due("not exact, what 2", joined.wayTime(8, 2), -1);
        due("no way", stepped(NO_WAY, 1).wayTime(1, 1), -3);
        SlopeChecker fine = stepped(FINE_TIMES, 60);
        int p = fine.check(2);
        due("a way", bit(fine.way(p) > 0), 1);
        due("too fine together", fine.wayTime(p, 0), -3);
        due("too fine together, below", fine.wayTime(p, 1), -3);
        due("not too fine one ahead", bit(fine.wayTime(p - 2, 1) > 3000), 1);
    }

    private static void ride() {
        SlopeChecker x = told(BOUNCE);
        due("three jumps", x.ride(0, 0, 0, 1, 3), 3);
        due("thirty jumps", x.ride(0, 0, 0, 1, 30), 30);
        due("one jump", x.ride(1, 5, 0, 2, 1), 1);
        due("not kept", x.ride(0, 11, 0, 1, 1), -2);
        due("kept at the edge", x.ride(0, 10, 0, 1, 1), 1);
        due("a bit behind the edge", x.ride(0, 301, 0, 30, 1), -2);
        due("not within 1000", x.ride(1, 1001, 0, 1, 1), -2);
        due("not within -1000", x.ride(0, 0, -1001, 1, 1), -2);
        due("within -1000", x.ride(0, 0, -1000, 1, 1), 1);
        due("mode 2", x.ride(2, 0, 0, 1, 1), -1);
        due("mode -1", x.ride(-1, 0, 0, 1, 1), -1);
        due("by 0", x.ride(0, 0, 0, 0, 1), -1);
        due("by 31", x.ride(0, 0, 0, 31, 1), -1);
        due("x 30001", x.ride(0, 30001, 0, 30, 1), -1);
        due("y -30001", x.ride(0, 0, -30001, 30, 1), -1);
        due("n 0", x.ride(0, 0, 0, 1, 0), -1);
        due("n 31", x.ride(0, 0, 0, 1, 31), -1);
        due("four sevenths", told(SEVENTHS).ride(0, 0, 1, 1, 30), 4);
        // what it becomes must be kept where it leads
        SlopeChecker kept = told("mode a 1 0;mode b 0 0;keep b -1 0 -9;edge a b;add x 2;");
        due("waits until it is kept there", kept.ride(0, 0, 0, 1, 1), 1);
        due("for so long", kept.ridden(1, 6), 7);
        // what is put must be within what is kept, too
        due("can't be put there", told("mode a 1 0;mode b 0 0;keep b 1 0 3;edge a b;put x 4;").ride(0, 0, 0, 1, 1), 0);
        due("can't be added up to 1001", told("mode a 0 0;edge a a;add x 1;").ride(0, 1000, 0, 1, 5), 0);
        due("can't begin for x and y", told("mode a 0 0;keep a 1 2 10;").ride(0, 0, 11, 2, 1), -2);
        due("can begin for x and y", told("mode a 0 0;keep a 1 2 10;").ride(0, 0, 5, 1, 1), 0);
        putAtTheEdge();
        severalBounds();
        SlopeChecker still = told("mode a 0 0;edge a a;");
        int[] ends = {-1000, 1000};
        for (int atX : ends) {
            for (int atY : ends) {
                due("a jump in the corner " + atX + ", " + atY, still.ride(0, atX, atY, 1, 2), 2);
            }
        }
        // a guard that has gone by is never met again
        due("gone by", told("mode a 1 0;edge a a;when 1 0 5;").ride(0, 6, 0, 1, 1), 0);
        // a guard that is met only behind what the mode keeps
        due("not kept so long", told("mode a 1 0;keep a 1 0 4;edge a a;when -1 0 -5;").ride(0, 0, 0, 1, 1), 0);
        // the end of what is within, too
        due("not within so long", told("mode a 9 0;edge a a;when -1 0 -999;").ride(0, 1000, 0, 1, 1), 1);
    }

    /** What is put neither moves nor leaves what is kept. */
    private static void putAtTheEdge() {
        SlopeChecker x = told("mode a 1 0;mode b 0 0;keep b 1 0 5;edge a b;when -1 0 -3;put x 5;");
        due("x put at the edge", x.ride(0, 1, 0, 3, 1), 1);
        due("x put at the edge, time", x.ridden(1, 6), 8);
        due("x put at the edge, time below", x.ridden(1, 7), 3);
        due("x put there", x.ridden(1, 1), 5);
        SlopeChecker y = told("mode a 0 1;mode b 0 0;keep b 0 1 5;edge a b;when 0 -1 -3;put y 5;");
        due("y put at the edge", y.ride(0, 0, 1, 3, 1), 1);
        due("y put at the edge, time", y.ridden(1, 6), 8);
        due("y put at the edge, time below", y.ridden(1, 7), 3);
        due("y put there", y.ridden(1, 3), 5);
    }

    /** The least of what ends the span of times, the greatest of what begins it, in either order. */
    private static void severalBounds() {
        due("kept up to 10/3, from 4", told("mode a 1 0;keep a 3 0 10;edge a a;when 1 0 5;when -1 0 -4;")
            .ride(0, 0, 0, 1, 1), 0);
        due("kept up to 5, guarded up to 10/3, from 4", told("mode a 1 0;keep a 1 0 5;edge a a;when 3 0 10;when -1 0 -4;")
            .ride(0, 0, 0, 1, 1), 0);
        due("kept up to 10/3, from 3", told("mode a 1 0;keep a 3 0 10;edge a a;when 1 0 5;when -1 0 -3;")
            .ride(0, 0, 0, 1, 1), 1);
        String[] guards = {"when -3 0 -10;when -1 0 -3;", "when -1 0 -3;when -3 0 -10;"};
        for (String guard : guards) {
            SlopeChecker x = told("mode a 1 0;edge a a;" + guard);
            x.ride(0, 0, 0, 1, 1);
            due("from 10/3 on: " + guard, x.ridden(1, 6), 10);
            due("from 10/3 on, below: " + guard, x.ridden(1, 7), 3);
        }
        SlopeChecker y = told("mode a 1 0;mode b 0 0;edge a b;when -3 0 -10;edge a b;when -2 0 -7;edge a b;when -5 0 -16;");
        y.ride(0, 0, 0, 1, 1);
        due("the earliest of 10/3, 7/2, 16/5", y.ridden(1, 5), 2);
        due("its time", y.ridden(1, 6), 16);
    }

    private static void ridden() {
        SlopeChecker x = told(BOUNCE);
        due("none was told", x.ridden(0, 0), NO_INT);
        x.ride(0, 1, 0, 2, 3);
        int[][] want = {{0, 1, 2, 0, 1, -2, 0, 1}, {1, 4, 1, 0, 1, 0, 7, 2}, {0, 0, 1, 6, 1, 1, 6, 1},
            {1, 4, 1, 6, 1, 0, 4, 1}};
        for (int j = 0; j < 4; j++) {
            for (int what = 0; what < 8; what++) {
                due("ridden(" + j + ", " + what + ")", x.ridden(j, what), want[j][what]);
            }
        }
        due("jump 4", x.ridden(4, 0), NO_INT);
        due("jump -1", x.ridden(-1, 0), NO_INT);
        due("what 8", x.ridden(0, 8), NO_INT);
        due("what -1", x.ridden(0, -1), NO_INT);
        x.ride(0, 11, 0, 1, 1);
        due("one that can't begin isn't told", x.ridden(3, 0), 1);
        x.ride(0, 0, 0, 1, 99);
        due("nor one that there isn't", x.ridden(3, 0), 1);
        x.ride(0, 14, 0, 2, 1);
        due("a new one", x.ridden(0, 1), 7);
        due("is shorter", x.ridden(2, 0), NO_INT);
        // the earliest EDGE, of several the one of the least number
        SlopeChecker y = told("mode a 1 0;mode b 0 0;edge a b;when -1 0 -5;put y 1;edge a b;when -1 0 -3;put y 2;"
            + "edge a b;when -2 0 -6;put y 3;");
        y.ride(0, 0, 0, 1, 1);
        due("the earliest", y.ridden(1, 5), 1);
        due("its time", y.ridden(1, 6), 3);
        due("its y", y.ridden(1, 3), 2);
        y.ride(0, 7, 0, 1, 1);
        due("at once the least number", y.ridden(1, 5), 0);
        due("at once", y.ridden(1, 6), 0);
        SlopeChecker z = told(SEVENTHS);
        z.ride(0, 0, 1, 1, 30);
        due("the last that can be told", z.ridden(4, 4), 2401);
        due("behind it", z.ridden(5, 4), NO_INT);
    }

    private static void ended() {
        SlopeChecker x = told(SEVENTHS);
        due("none was told", x.ended(), -1);
        x.ride(0, 0, 1, 1, 30);
        due("BEYOND", x.ended(), 2);
        x.ride(0, 0, 1, 1, 4);
        due("n jumps, asked first", x.ended(), 3);
        x.ride(0, 0, 1, 1, 5);
        due("BEYOND in the fifth", x.ended(), 2);
        x.ride(1, -1, 0, 1, 1);
        due("stays, if it can't begin", x.ended(), 2);
        SlopeChecker y = told(SLANT);
        y.ride(0, 0, 0, 1, 5);
        due("no edge", y.ended(), 1);
        endedBeyond();
        SlopeChecker z = told("mode a 1 0;edge a a;when -1 0 -5;put x 0;keep a 1 0 5;edge a a;when 1 0 -9;");
        z.ride(0, 0, 0, 1, 7);
        due("all jumps", z.ended(), 3);
        SlopeChecker w = told("mode a 1 0;mode b 1 0;edge a b;");
        w.ride(0, 0, 0, 1, 1);
        due("asked first, though there is no edge more", w.ended(), 3);
        w.ride(0, 0, 0, 1, 2);
        due("no edge more", w.ended(), 1);
    }

    private static void endedBeyond() {
        // 3000 below isn't BEYOND, 6000 is
        String halves = "mode a 1 -5;keep a 0 -1 0;mode b -5 1;keep b -1 0 0;mode c 1 -4;keep c 0 -1 0;mode d -2 1;"
            + "edge a b;when 0 1 0;edge b c;when 1 0 0;edge c d;when 0 1 0;edge d d;when 1 0 0;";
        SlopeChecker x = told(halves);
        due("up to 1/3000", x.ride(0, 0, 1, 30, 30), 3);
        due("1/3000 is told", x.ridden(3, 7), 3000);
        due("1/6000 isn't", x.ended(), 2);
        // a TIME of 1249 by 2401 isn't BEYOND above, one of 1250 is
        String far = "mode a 1 -7;keep a 0 -1 0;mode b -7 1;keep b -1 0 0;mode c 0 1;mode d 0 0;edge a b;when 0 1 0;"
            + "edge b a;when 1 0 0;when 0 -1 -1;edge b c;when 1 0 0;when 0 1 1;add y -999;edge c d;when 0 -1 ";
        SlopeChecker y = told(far + "-250;");
        due("up to 2997850/2401", y.ride(0, 0, 999, 1, 30), 5);
        due("2997850 is told", y.ridden(5, 6), 2997850);
        SlopeChecker z = told(far + "-251;");
        due("up to 3000251/2401", z.ride(0, 0, 999, 1, 30), 4);
        due("3000251 isn't told", z.ended(), 2);
        // the time is told, but x by 343 and 9 together isn't, nor y
        SlopeChecker v = told("mode a 1 -7;keep a 0 -1 0;mode b -7 1;keep b -1 0 0;mode c 1 9;mode d 0 0;"
            + "edge a b;when 0 1 0;edge b c;when 1 0 3;when 0 1 0;edge b a;when 1 0 0;edge c d;when 0 -1 -1;");
        due("x is BEYOND", v.ride(0, 0, 900, 1, 30), 4);
        due("x is BEYOND, it ends", v.ended(), 2);
        SlopeChecker w = told("mode a -7 1;keep a -1 0 0;mode b 1 -7;keep b 0 -1 0;mode c 9 1;mode d 0 0;"
            + "edge a b;when 1 0 0;edge b c;when 0 1 3;when 1 0 0;edge b a;when 0 1 0;edge c d;when -1 0 -1;");
        due("y is BEYOND", w.ride(0, 900, 0, 1, 30), 4);
        due("y is BEYOND, it ends", w.ended(), 2);
    }

    private static void followed() {
        SlopeChecker x = told(BOUNCE);
        due("none was told", x.followed(), -1);
        x.ride(0, 0, 0, 1, 3);
        due("no parts so far", x.followed(), 0);
        x.step(1);
        due("some parts so far", x.followed(), 0);
        x.step(1);
        due("all parts", x.followed(), 1);
        x.ride(0, 0, -3, 1, 1);
        due("from elsewhere", x.followed(), 0);
        SlopeChecker back = told("mode a 1 0;start a 0 0 0 0;edge a a;when -1 0 -5;put x 0;");
        back.ride(0, 0, 0, 1, 3);
        due("back into the first part", back.followed(), 1);
        SlopeChecker fine = stepped(SEVENTHS, 60);
        fine.ride(0, 0, 1, 1, 3);
        due("by fractions", fine.followed(), 1);
        fine.ride(0, 0, 29, 30, 3);
        due("by other fractions", fine.followed(), 0);
        // the point as it began isn't asked
        SlopeChecker y = stepped("mode a 0 0;mode b 0 0;start a 0 0 0 0;edge a b;put x 1;", 1);
        y.ride(0, 5, 0, 1, 1);
        due("from elsewhere into a part", y.followed(), 1);
        y.ride(1, 5, 0, 1, 1);
        due("without a jump", y.followed(), 1);
    }

    private static void ifStart() {
        SlopeChecker x = told(BOUNCE);
        int[] want = {4, 1, 0, 0, 0};
        int[] early = {2, 1, 0, 0, 1};
        int[] never = {0, -2, 0, 1, 0};
        for (int what = 0; what < 5; what++) {
            due("ifStart, 60 steps, " + what, x.ifStart(5, 5, 0, 0, 60, what), want[what]);
            due("ifStart, 1 step, " + what, x.ifStart(5, 5, 0, 0, 1, what), early[what]);
            due("ifStart, not kept, " + what, x.ifStart(11, 12, 0, 0, 60, what), never[what]);
        }
        due("nothing is changed", x.count(4), 0);
        due("what 5", x.ifStart(0, 0, 0, 0, 1, 5), -1);
        due("what -1", x.ifStart(0, 0, 0, 0, 1, -1), -1);
        due("n 0", x.ifStart(0, 0, 0, 0, 0, 0), -1);
        due("n 61", x.ifStart(0, 0, 0, 0, 61, 0), -1);
        due("x turned", x.ifStart(1, 0, 0, 0, 1, 0), -1);
        due("y turned", x.ifStart(0, 0, 1, 0, 1, 0), -1);
        due("x from -1000", x.ifStart(-1000, 0, 0, 0, 1, 0), -1);
        due("x to 1000", x.ifStart(0, 1000, 0, 0, 1, 0), -1);
        due("y from -1000", x.ifStart(0, 0, -1000, 0, 1, 0), -1);
        due("y to 1000", x.ifStart(0, 0, 0, 1000, 1, 0), -1);
        due("the widest", x.ifStart(-999, 999, -999, 999, 1, 0), 2);
        SlopeChecker none = told("mode a 1 0;edge a a;");
        due("no start", none.ifStart(0, 0, 0, 0, 1, 0), -2);
        due("no start, what 5", none.ifStart(0, 0, 0, 0, 1, 5), -1);
        due("why", told(SEVENTHS).ifStart(0, 0, 2, 2, 60, 2), 1);
        due("BEYOND at once", told("mode a 2 -5;keep a 7 -8 547;keep a -8 8 717;keep a -9 -7 410;start a 0 0 0 0;")
            .ifStart(-590, 836, 523, 650, 1, 2), 1);
    }

    private static void ifMost() {
        SlopeChecker x = stepped(COUNTER, 3);
        due("parts", x.ifMost(1, 60, 0), 60);
        due("parts of five steps", x.ifMost(8, 5, 0), 6);
        due("why", x.ifMost(8, 60, 2), 2);
        due("open", x.ifMost(2, 5, 4), 1);
        due("safe", x.ifMost(2, 5, 3), 0);
        due("harmed", x.ifMost(2, 5, 1), -2);
        due("m 0", x.ifMost(0, 1, 0), -1);
        due("m 9", x.ifMost(9, 1, 0), -1);
        due("n 0", x.ifMost(1, 0, 0), -1);
        due("n 61", x.ifMost(1, 61, 0), -1);
        due("what 5", x.ifMost(1, 1, 5), -1);
        due("what -1", x.ifMost(1, 1, -1), -1);
        due("nothing is changed: parts", x.count(3), 4);
        due("nothing is changed: most", x.count(5), 8);
        due("no start", told("mode a 1 0;").ifMost(1, 1, 0), -2);
        due("no start, m 9", told("mode a 1 0;").ifMost(9, 1, 0), -1);
        // joined early, the set from 0 to 4 has harm at 2 that no PART by itself has
        SlopeChecker y = told("mode a 0 0;start a 0 0 0 0;edge a a;add x 4;when 1 0 0;harm a 1 0 3;harm a -1 0 -1;");
        due("not harmed by most 4", y.ifMost(4, 60, 1), -2);
        due("safe by most 4", y.ifMost(4, 60, 3), 1);
        due("harmed by most 1", y.ifMost(1, 60, 1), 1);
    }

    private static void ifWithout() {
        SlopeChecker x = told(BOUNCE);
        due("harmed", x.ifWithout(0, 60, 1), -2);
        due("safe", x.ifWithout(0, 60, 3), 1);
        due("parts", x.ifWithout(0, 60, 0), 1);
        due("harmed without the other", x.ifWithout(1, 60, 1), 1);
        due("parts without the other", x.ifWithout(1, 60, 0), 2);
        due("open without the other", x.ifWithout(1, 1, 4), 1);
        due("why without the other", x.ifWithout(1, 60, 2), 0);
        due("edge 2", x.ifWithout(2, 1, 0), -1);
        due("edge -1", x.ifWithout(-1, 1, 0), -1);
        due("n 0", x.ifWithout(0, 0, 0), -1);
        due("n 61", x.ifWithout(0, 61, 0), -1);
        due("what 5", x.ifWithout(0, 1, 5), -1);
        due("what -1", x.ifWithout(0, 1, -1), -1);
        SlopeChecker none = told("mode a 1 0;edge a a;");
        due("no start", none.ifWithout(0, 1, 0), -2);
        due("no start, no edge", none.ifWithout(1, 1, 0), -1);
        due("nothing is changed", x.count(3), 1);
    }

    private static void blamed() {
        SlopeChecker x = told(BOUNCE);
        due("blamed(60)", x.blamed(60), 1);
        due("blamed(0)", x.blamed(0), -1);
        due("blamed(61)", x.blamed(61), -1);
        due("no start", told("mode a 1 0;edge a a;").blamed(60), -2);
        due("no start, n 0", told("mode a 1 0;edge a a;").blamed(0), -1);
        due("no edges", told(SLANT).blamed(60), 0);
        due("never harmed", told(COUNTER + "edge a a;edge a a;").blamed(60), 7);
        due("harmed at once", told("mode a 0 0;harm a 1 0 5;start a 0 0 0 0;edge a a;").blamed(60), 0);
        String chain = "mode a 0 0;mode b 0 0;mode c 0 0;edge a b;edge b c;edge a c;edge c c;harm c 1 0 9;start a 0 0 0 0;";
        due("two ways to harm", told(chain).blamed(60), 0);
        due("one way within one step", told(chain).blamed(1), 4);
        due("harmed by what is joined alone", told(JOINED_HARM + "edge a a;when 1 0 -5;").blamed(60), 1);
        due("nothing is changed", x.count(4), 0);
    }

    private static void count() {
        SlopeChecker x = stepped(BOUNCE, 60);
        x.feed(0, 0, 0, 0, 0);
        int[] want = {2, 2, 4, 3, 3, 4, 20};
        for (int what = 0; what < want.length; what++) {
            due("count(" + what + ")", x.count(what), want[what]);
        }
        due("count(-1)", x.count(-1), -1);
        due("count(7)", x.count(7), -1);
        due("most", told(COUNTER).count(5), 8);
    }

    /** ==== 4.: what is asked changes nothing. */
    private static void askingChangesNothing() {
        SlopeChecker x = stepped(BOUNCE, 2);
        x.ride(0, 0, 0, 1, 3);
        long ahead = print(x);
        x.ifStart(-9, 9, -9, 9, 60, 0);
        x.ifMost(1, 60, 0);
        x.ifWithout(1, 60, 0);
        x.blamed(60);
        x.meets(1, 1, 0, 3);
        x.way(2);
        x.wayTime(1, 0);
        x.corner(1, 1, 0, 0);
        x.part(0, 8);
        x.followed();
        due("all answers stay", print(x), ahead);
    }

    private static long print(SlopeChecker x) {
        long sum = 7;
        for (int what = 0; what < 9; what++) {
            sum = sum * 31 + x.check(what);
            sum = sum * 31 + x.count(what);
        }
        for (int p = 0; p < x.count(3); p++) {
            for (int what = 0; what < 10; what++) {
                sum = sum * 31 + x.part(p, what);
            }
            for (int k = 0; k < x.count(2); k++) {
                sum = sum * 31 + x.limit(p, 0, k, 0) * 17 + x.limit(p, 1, k, 0);
            }
        }
        for (int j = 0; j < 4; j++) {
            for (int what = 0; what < 8; what++) {
                sum = sum * 31 + x.ridden(j, what);
            }
        }
        return sum;
    }

    public static void main(String[] args) {
        aNewObject();
        feed();
        text();
        fault();
        step();
        check();
        mode();
        edge();
        normal();
        normalOf();
        part();
        limit();
        corner();
        has();
        where();
        within();
        meets();
        way();
        onWay();
        wayTime();
        ride();
        ridden();
        ended();
        followed();
        ifStart();
        ifMost();
        ifWithout();
        blamed();
        count();
        askingChangesNothing();
        System.out.println(asked + " asked, " + wrong + " wrong");
        if (wrong != 0) {
            System.exit(1);
        }
    }
}
