/** The borders that the promises 1 to 4 name: the TAPE, the TEXT and its FAULTS. */
public final class BoundaryTextTest {
    private static final String A = "mode a 0 0;";
    private static final String EDGE = "mode a 0 0;edge a a;";
    private static final String SIX = "mode a 0 0;mode b 0 0;mode c 0 0;mode d 0 0;mode e 0 0;mode f 0 0;";
    /** 22 NORMALS: four, ten of modes, eight of bounds. */
    private static final String NORMALS_22 = "mode a 1 2;mode b 1 3;mode c 1 4;mode d 1 5;mode e 1 6;"
        + "keep a 7 1 1;keep a 7 2 1;keep a 7 3 1;keep a 7 4 1;keep b 7 5 1;keep b 7 6 1;keep b 8 1 1;keep b 8 3 1;";
    private static final String NORMALS_23 = NORMALS_22 + "keep c 8 5 1;";
    private static final String NORMALS_24 = NORMALS_23 + "keep c 8 7 1;";
    private static final int[] FAR = {Integer.MIN_VALUE, Integer.MIN_VALUE + 1, Integer.MAX_VALUE - 1, Integer.MAX_VALUE};

    private static Sentences s;

    public static void main(String[] args) throws Exception {
        s = new Sentences(args);
        aNewObject();
        feed();
        text();
        fault();
        words();
        numbersAndBlanks();
        modes();
        boundsOfLines();
        edges();
        startAndMost();
        boundNumbers();
        firstAlong();
        cantStand();
        tooMuch();
        normals();
        toldAlready();
        s.end(1, 4);
    }

    private static void aNewObject() {
        s.of(1, "No MODES; an empty TAPE.");
        SlopeChecker x = new SlopeChecker();
        s.due("new count(0)", x.count(0), 0);
        s.due("new count(6)", x.count(6), 0);
        s.due("new mode(0, 0)", Sentences.modeOr(x, 0, 0), Sentences.OUT_OF_BOUNDS);
        s.due("new text(1)", x.text(1), -2);
        s.due("new text(0)", x.text(0), 0);
        s.due("one MODE told", s.told(A).count(0), 1);
        s.due("new feed", new SlopeChecker().feed(0, 0, 0, 0, 0), 20);

        s.of(1, "An object is used for at most 512 calls after it has been made");
        SlopeChecker used = new SlopeChecker();
        for (int call = 1; call < 511; call++) {
            used.count(call % 8);
        }
        s.due("call 511", used.feed(0x6d6f7374, 0x20373b20, 0x20202020, 0x20202020, 0x20202020), 20);
        s.due("call 512", used.text(20), 1);
    }

    private static void feed() {
        s.of(2, "Twenty bytes come behind the TAPE, four of each number, the highest first: how many it has");
        for (int place = 0; place < 40; place++) {
            SlopeChecker x = new SlopeChecker();
            Sentences.feedAll(x, Sentences.times(place, " ") + "!" + Sentences.times(39 - place, " "));
            s.due("bytes of two feeds", x.count(6), 40);
            s.due("text with a sign at " + place, x.text(40), -1);
            s.due("its place", x.fault(1), place);
        }
        SlopeChecker blank = new SlopeChecker();
        s.due("feed of blanks", blank.feed(0x20202020, 0x20202020, 0x0a0a0a0a, 0x20202020, 0x20202020), 20);
        s.due("text of blanks", blank.text(20), 0);
        int[] high = {0x80000000, 0xff000000, 0x00202020, 0x21202020, 0x1f202020};
        for (int four : high) {
            SlopeChecker x = new SlopeChecker();
            x.feed(0x20202020, 0x20202020, 0x20202020, 0x20202020, four);
            s.due("text with " + four, x.text(20), -1);
            s.due("place of " + four, x.fault(1), 16);
        }

        s.of(2, "NONE, and none come, if it would have more than 900.");
        SlopeChecker x = new SlopeChecker();
        for (int i = 1; i <= 44; i++) {
            s.due("feed " + i, x.feed(0x20202020, 0x20202020, 0x20202020, 0x20202020, 0x20202020), 20 * i);
        }
        s.due("feed 45", x.feed(0x20202020, 0x20202020, 0x20202020, 0x206d6f73, 0x7420353b), 900);
        s.due("feed 46", x.feed(-1, -1, -1, -1, -1), -1);
        s.due("none come", x.count(6), 900);
        s.due("feed 47", x.feed(-1, -1, -1, -1, -1), -1);
        s.due("text(901)", x.text(901), -2);
        s.due("text(900)", x.text(900), 1);
        s.due("read to the last byte", x.count(5), 5);
        s.due("feed behind it", x.feed(0, 0, 0, 0, 0), 20);
    }

    private static void text() {
        s.of(3, "The TAPE's first n bytes (it is empty then) are the TEXT");
        String two = "most 5;most 6;";
        int[] answers = {0, -1, -1, -1, -1, -1, -1, 1, -1};
        for (int n = 0; n < answers.length; n++) {
            SlopeChecker x = new SlopeChecker();
            Sentences.feedAll(x, two);
            s.due("text(" + n + ")", x.text(n), answers[n]);
            s.due("TAPE behind text(" + n + ")", x.count(6), 0);
            s.due("text(1) behind it", x.text(1), -2);
        }
        cutAt("most 12;", 6, 1, 6);
        cutAt("most 12;", 7, 2, 5);
        cutAt("mode abcdefg 0 0;", 11, 1, 11);
        cutAt("mode abcdefg 0 0;", 12, 1, 5);
        cutAt("mode a -5 0;", 8, 1, 8);
        cutAt("mode a   5 0;", 8, 1, 8);
        allAnew();

        s.of(3, "how many LINES");
        s.right("", 0);
        s.right(" \n", 0);
        s.right("most 1;", 1);
        s.right("most 1;mode a 0 0;", 2);
        s.right(SIX + times(10, "edge a b;put x 1;put y 1;"), 36);
        textRefused();
    }

    /** The FAULT of the first n bytes, with more behind them on the TAPE. */
    private static void cutAt(String tape, int n, int kind, int place) {
        SlopeChecker x = new SlopeChecker();
        Sentences.feedAll(x, tape);
        s.due("text(" + n + ") of " + tape, x.text(n), -1);
        s.due("fault(0) of " + n + " bytes of " + tape, x.fault(0), kind);
        s.due("fault(1) of " + n + " bytes of " + tape, x.fault(1), place);
    }

    private static void allAnew() {
        s.of(3, "(all anew)");
        SlopeChecker anew = s.stepped(EDGE + "put x 3;start a 0 0 0 0;most 7;keep a 1 2 9;", 3);
        anew.ride(0, 0, 0, 1, 1);
        s.due("text(0)", anew.text(0), 0);
        int[] counts = {0, 0, 4, 0, 0, 4, 0};
        for (int what = 0; what < counts.length; what++) {
            s.due("count(" + what + ") anew", anew.count(what), counts[what]);
        }
        s.due("check(4) anew", anew.check(4), 0);
        s.due("ended() anew", anew.ended(), -1);
        // MODES, BOUNDS, EDGES, NORMALS, PARTS that are OPEN, GONE, HARMED, COVERED and JOINED, and a RIDE are there ahead of it
        String used = "mode a 0 0;start a 0 9 0 9;most 2;" + times(3, "keep a 1 0 99;") + times(2, "harm a 2 3 99;")
            + "mode b 1 2;keep b 0 1 9;harm b 1 1 9;edge a b;put x 5;put y 7;" + times(2, "when 1 1 99;") + "edge a a;add x 1;add y 1;";
        String[] next = {"", "mode b 0 0;", "mode a 0 0;start a 0 0 0 0;", "mode a 0 0;mode c 0 0;edge a c;edge c a;start c 1 1 1 1;",
            "most 3;mode a 1 0;edge a a;start a 0 0 0 0;"};
        for (String text : next) {
            anewBehind(used, 1, text);
            anewBehind(used, 9, text);
        }
    }

    private static void anewBehind(String used, int steps, String text) {
        SlopeChecker x = new SlopeChecker();
        for (int i = 0; i < 2; i++) {
            s.due("LINES of what is used", Sentences.tell(x, used), 19);
            s.due("STEPS", x.step(steps), steps);
            x.ride(0, 0, 0, 1, 5);
        }
        Sentences.tell(x, text);
        s.due("all anew by " + text, Sentences.print(x) - Sentences.print(s.told(text)), 0);
        s.due("STEPS of it", x.step(60) - s.told(text).step(60), 0);
        s.due("again, all anew by " + text, Sentences.print(x) - Sentences.print(s.stepped(text, 60)), 0);
    }

    private static void textRefused() {
        s.of(3, "NONE with a FAULT, all else stays");
        long ahead = Sentences.print(ridden());
        String[] faults = {"mode b 1 1;start b 0 0 0 0!", "!mode b 1 1;", "mode b 1 1;mode"};
        for (String fault : faults) {
            SlopeChecker x = ridden();
            s.due("text of " + fault, Sentences.tell(x, fault), -1);
            s.due("all stays", Sentences.print(x) - ahead, 0);
            s.due("the TAPE is empty", x.count(6), 0);
        }
        SlopeChecker anew = ridden();
        s.due("no FAULT", Sentences.tell(anew, "mode b 1 1;"), 1);
        s.due("nothing stays", anew.count(3), 0);

        s.of(3, "-2, and the TAPE stays: there are not so many, n is below 0.");
        SlopeChecker y = new SlopeChecker();
        Sentences.feedAll(y, "most 3;");
        s.due("text(21) of 20", y.text(21), -2);
        s.due("text(-1)", y.text(-1), -2);
        for (int n : FAR) {
            s.due("text(" + n + ")", y.text(n), -2);
        }
        s.due("the TAPE stays", y.count(6), 20);
        s.due("text(20)", y.text(20), 1);
        s.due("it was read", y.count(5), 3);
        s.due("text(1) of none", y.text(1), -2);
        s.due("text(0) of none", y.text(0), 0);
    }

    private static SlopeChecker ridden() {
        SlopeChecker x = s.stepped("mode a 1 0;edge a a;when -1 0 -5;put x 3;start a 0 0 0 0;most 7;keep a 1 2 99;", 3);
        x.ride(0, 0, 0, 1, 4);
        return x;
    }

    private static void fault() {
        s.of(4, "Of the latest text() that was not -2");
        SlopeChecker x = new SlopeChecker();
        Sentences.tell(x, "most 0;");
        x.text(1);
        s.due("fault(0) behind -2", x.fault(0), 2);
        s.due("fault(1) behind -2", x.fault(1), 5);
        Sentences.tell(x, "mode");
        s.due("fault(0) of the next", x.fault(0), 1);
        s.due("fault(1) of the next", x.fault(1), 4);
        x.text(0);
        s.due("fault(0) of one without", x.fault(0), 0);
        s.due("fault(1) of one without", x.fault(1), -1);

        s.of(4, "what 0: its FAULT (0), 1: its place (NONE without).");
        SlopeChecker none = new SlopeChecker();
        s.due("new fault(0)", none.fault(0), 0);
        s.due("new fault(1)", none.fault(1), -1);
        s.faulty("!", 1, 0);
        s.faulty("most 0;", 2, 5);
        s.faulty("most 1;most 1;", 3, 7);
        s.faulty(Sentences.times(899, " ") + "!", 1, 899);
        s.faulty(Sentences.times(896, " ") + "most", 1, 900);

        s.of(4, "NONE for another what.");
        SlopeChecker z = new SlopeChecker();
        Sentences.tell(z, "most 0;");
        s.due("fault(-1)", z.fault(-1), -1);
        s.due("fault(0)", z.fault(0), 2);
        s.due("fault(1)", z.fault(1), 5);
        s.due("fault(2)", z.fault(2), -1);
        for (int what : FAR) {
            s.due("fault(" + what + ")", z.fault(what), -1);
        }
    }

    private static void words() {
        s.of(3, "A TEXT: { LINE ';' }.");
        s.right("most 4;", 1);
        s.faulty("most 4", 1, 6);
        s.faulty("most 4;;", 1, 7);
        s.faulty(";", 1, 0);
        s.faulty("most 4:", 1, 6);
        s.faulty("most 4<", 1, 6);

        s.of(4, "LINE: mode W N N | keep W N N N | harm W N N N | edge W W | when N N N | put S N | add S N | start W N N N N | most N.");
        String[] lines = {"mode b 1 2", "keep a 1 2 3", "harm a 1 2 3", "edge a a", "when 1 2 3", "put x 1", "add y 2",
            "start a 1 2 3 4", "most 5"};
        for (String line : lines) {
            int at = EDGE.length();
            int last = line.lastIndexOf(' ');
            s.right(EDGE + line + ";", 3);
            s.faulty(EDGE + line.substring(0, last) + ";", 1, at + last);
            s.faulty(EDGE + line + " 1;", 1, at + line.length() + 1);
            s.faulty(EDGE + line + " a;", 1, at + line.length() + 1);
            s.faulty(EDGE + line + " " + line + ";", 1, at + line.length() + 1);
        }

        s.of(4, "W: a word, a .. z, of 1 .. 6 letters");
        s.right("mode a 0 0;", 1);
        s.right("mode z 0 0;", 1);
        s.right("mode azazaz 0 0;keep azazaz 1 0 1;edge azazaz azazaz;start azazaz 0 0 0 0;", 4);
        s.right("mode zzzzzz 0 0;mode zzzzzy 0 0;mode zzzzz 0 0;", 3);
        s.faulty("mode azazaza 0 0;", 1, 5);
        s.faulty("mode azazazazazazazaza 0 0;", 1, 5);
        s.faulty("mode 0 0;", 1, 5);
        s.faulty("mode ` 0 0;", 1, 5);
        s.faulty("mode { 0 0;", 1, 5);
        s.faulty("mode A 0 0;", 1, 5);
        s.faulty("mode Z 0 0;", 1, 5);
        s.faulty("mode a{ 0 0;", 1, 6);
        s.faulty("mode azazaz 0 0;keep azazaza 1 0 1;", 1, 21);
        s.faulty("mode azazaz 0 0;keep azaza 1 0 1;", 1, 21);

        s.of(4, "none of the language's (mode, keep, harm, edge, when, put, add, start, most, x, y)");
        String[] language = {"mode", "keep", "harm", "edge", "when", "put", "add", "start", "most", "x", "y"};
        for (String w : language) {
            s.faulty("mode " + w + " 0 0;", 1, 5);
            s.right("mode " + w + "a 0 0;", 1);
            s.right("mode a" + w + " 0 0;", 1);
        }
        s.right("mode w 0 0;mode z 0 0;", 2);
        for (int w = 0; w < 9; w++) {
            s.faulty(language[w].substring(1) + " a 0 0;", 1, 0);
            s.faulty(language[w] + "a 0 0;", 1, 0);
        }
        s.faulty("x 0 0;", 1, 0);
        s.faulty("y 0 0;", 1, 0);
    }

    private static void numbersAndBlanks() {
        s.of(4, "N: digits, or '-' and digits (blanks may be between).");
        s.right("mode a 0 9;", 1);
        s.right("mode a - \n 9 -9;", 1);
        s.right("mode a 0000000000000000000000000009 -00000000000000000009;", 1);
        s.faulty("mode a / 0;", 1, 7);
        s.faulty("mode a : 0;", 1, 7);
        s.faulty("mode a - ;", 1, 9);
        s.faulty("mode a --1 0;", 1, 8);
        s.faulty("mode a +1 0;", 1, 7);
        s.faulty("mode a ,1 0;", 1, 7);
        s.faulty("mode a .1 0;", 1, 7);
        s.right("mode a 1- 0;", 1);
        s.faulty("mode a 1-;", 1, 9);
        s.faulty("mode a 1 b;", 1, 9);

        s.of(4, "Blanks 10, 32.");
        s.right("mode\na\n0\n0\n;\n", 1);
        s.right(" mode  a  0  0  ;  ", 1);
        int[] noBlanks = {0, 9, 11, 13, 31, 33, 128 + 10, 128 + 32, 160, 255};
        for (int c : noBlanks) {
            s.faulty("mode" + (char) c + "a 0 0;", 1, 4);
            s.faulty("mode a 0 0;" + (char) c, 1, 11);
        }
    }

    private static void modes() {
        s.of(4, "mode, at most 6, numbered from 0 on");
        s.right(SIX, 6);
        s.faulty(SIX + "mode g 0 0;", 2, SIX.length());
        SlopeChecker x = s.told("mode a 1 0;mode b 2 0;mode c 3 0;mode d 4 0;mode e 5 0;mode f 6 0;");
        for (int m = 0; m < 6; m++) {
            s.due("mode(" + m + ", 0)", Sentences.modeOr(x, m, 0), m + 1);
        }

        s.of(4, "its SLOPES by x, by y, -9 .. 9");
        s.right("mode a 9 -9;", 1);
        s.right("mode a -9 9;", 1);
        s.faulty("mode a 10 0;", 2, 7);
        s.faulty("mode a -10 0;", 2, 7);
        s.faulty("mode a 0 10;", 2, 9);
        s.faulty("mode a 0 -10;", 2, 9);
        SlopeChecker y = s.told("mode a 9 -9;mode b -9 9;");
        s.due("mode(0, 0)", Sentences.modeOr(y, 0, 0), 9);
        s.due("mode(0, 1)", Sentences.modeOr(y, 0, 1), -9);
        s.due("mode(1, 0)", Sentences.modeOr(y, 1, 0), -9);
        s.due("mode(1, 1)", Sentences.modeOr(y, 1, 1), 9);
    }

    private static void boundsOfLines() {
        String ab = "mode a 0 0;mode b 0 0;";
        s.of(4, "keep: a BOUND of a MODE told ahead, at most 4 each");
        s.right(ab + times(4, "keep a 1 0 1;keep b 1 0 1;"), 10);
        s.faulty(ab + times(4, "keep b 1 0 1;") + "keep b 1 0 1;", 2, 74);
        s.faulty(ab + times(4, "keep a 1 0 1;keep b 1 0 1;") + "keep a 1 0 1;", 2, 126);
        s.faulty("keep a 1 0 1;mode a 0 0;", 1, 5);
        s.faulty(A + "keep b 1 0 1;mode b 0 0;", 1, 16);
        s.right(A + times(4, "keep a 1 0 1;") + times(3, "harm a 1 0 1;"), 8);

        s.of(4, "harm: a BOUND of its HARM, at most 3 each");
        s.right(ab + times(3, "harm a 1 0 1;harm b 1 0 1;"), 8);
        s.faulty(ab + times(3, "harm b 1 0 1;") + "harm b 1 0 1;", 2, 61);
        s.faulty(ab + times(3, "harm a 1 0 1;harm b 1 0 1;") + "harm a 1 0 1;", 2, 100);
        s.faulty("harm a 1 0 1;mode a 0 0;", 1, 5);

        s.of(4, "when: a BOUND of the GUARD of the latest edge, at most 4 each");
        s.right(EDGE + times(4, "when 1 0 1;"), 6);
        s.faulty(EDGE + times(4, "when 1 0 1;") + "when 1 0 1;", 2, 64);
        s.right(EDGE + times(4, "when 1 0 1;") + "edge a a;" + times(4, "when 1 0 1;"), 11);
        s.faulty(EDGE + times(4, "when 1 0 1;") + "edge a a;" + times(5, "when 1 0 1;"), 2, 117);
        SlopeChecker x = s.told(EDGE + "when 1 0 1;edge a a;when 1 0 1;when 1 0 1;");
        s.due("edge(0, 2)", x.edge(0, 2), 1);
        s.due("edge(1, 2)", x.edge(1, 2), 2);
    }

    private static void edges() {
        s.of(4, "edge: from a MODE to a MODE, both told ahead, at most 10, numbered from 0 on");
        s.right(A + times(10, "edge a a;"), 11);
        s.faulty(A + times(10, "edge a a;") + "edge a a;", 2, 101);
        s.faulty("edge a a;mode a 0 0;", 1, 5);
        s.faulty(A + "edge a b;mode b 0 0;", 1, 18);
        s.faulty(A + "edge b a;mode b 0 0;", 1, 16);
        s.right(A + "mode b 0 0;edge a b;edge b a;", 4);

        s.of(4, "put: a size becomes N, -999 .. 999");
        s.right(EDGE + "put x 999;put y -999;", 4);
        s.right(EDGE + "put x -999;put y 999;", 4);
        s.faulty(EDGE + "put x 1000;", 2, 26);
        s.faulty(EDGE + "put x -1000;", 2, 26);
        s.faulty(EDGE + "put y 1000;", 2, 26);
        s.faulty(EDGE + "put y -1000;", 2, 26);

        s.of(4, "add: it is N more, -999 .. 999");
        s.right(EDGE + "add x 999;add y -999;", 4);
        s.right(EDGE + "add x -999;add y 999;", 4);
        s.faulty(EDGE + "add x 1000;", 2, 26);
        s.faulty(EDGE + "add x -1000;", 2, 26);
        s.faulty(EDGE + "add y 1000;", 2, 26);
        s.faulty(EDGE + "add y -1000;", 2, 26);

        s.of(4, "of the latest edge, one of these for x, one for y at most");
        String[] kinds = {"put", "add"};
        for (String first : kinds) {
            for (String second : kinds) {
                s.right(EDGE + first + " x 1;" + second + " y 1;", 4);
                s.right(EDGE + first + " x 1;edge a a;" + second + " x 1;", 5);
                s.faulty(EDGE + first + " x 1;" + second + " x 1;", 3, 28);
                s.faulty(EDGE + first + " y 0;" + second + " y 0;", 3, 28);
                s.faulty(EDGE + first + " x 1;" + second + " y 1;" + second + " x 1;", 3, 36);
            }
        }

        s.of(4, "S: x | y.");
        for (String kind : kinds) {
            s.right(EDGE + kind + " x 1;", 3);
            s.right(EDGE + kind + " y 1;", 3);
            s.faulty(EDGE + kind + " w 1;", 1, 24);
            s.faulty(EDGE + kind + " z 1;", 1, 24);
            s.faulty(EDGE + kind + " xx 1;", 1, 24);
            s.faulty(EDGE + kind + " xy 1;", 1, 24);
            s.faulty(EDGE + kind + " a 1;", 1, 24);
            s.faulty(EDGE + kind + " put 1;", 1, 24);
            s.faulty(EDGE + kind + " 1;", 1, 24);
            s.faulty(EDGE + kind + " - 1;", 1, 24);
            s.faulty(EDGE + kind + ";", 1, 23);
            s.faulty("mode a 0 0;edge a " + kind + ";", 1, 18);
        }
        SlopeChecker x = s.told(EDGE + "put x 3;add y 4;");
        s.due("x is put", x.edge(0, 4), 3);
        s.due("y is added to", x.edge(0, 6), 4);
    }

    private static void startAndMost() {
        s.of(4, "start, once: a MODE told ahead, x from, to, y from, to, -999 .. 999, to not below from");
        s.right(A + "start a -999 999 -999 999;", 2);
        s.right(A + "start a 999 999 -999 -999;", 2);
        s.right(A + "start a 3 3 -4 -4;", 2);
        s.right(A + "start a 2 3 -5 -4;", 2);
        s.faulty(A + "start a 3 2 0 0;", 2, 21);
        s.faulty(A + "start a 0 0 -4 -5;", 2, 26);
        s.faulty(A + "start a -1000 0 0 0;", 2, 19);
        s.faulty(A + "start a 1000 1000 0 0;", 2, 19);
        s.faulty(A + "start a 0 1000 0 0;", 2, 21);
        s.faulty(A + "start a 0 0 -1000 0;", 2, 23);
        s.faulty(A + "start a 0 0 1000 1000;", 2, 23);
        s.faulty(A + "start a 0 0 0 1000;", 2, 25);
        s.faulty("start a 0 0 0 0;mode a 0 0;", 1, 6);
        s.faulty(A + "start a 0 0 0 0;start a 0 0 0 0;", 3, 27);

        s.of(4, "most: 1 .. 8 (4), once.");
        for (int most = 1; most <= 8; most++) {
            s.due("most " + most, s.told("most " + most + ";").count(5), most);
        }
        s.due("no most", s.told(A).count(5), 4);
        s.faulty("most 0;", 2, 5);
        s.faulty("most 9;", 2, 5);
        s.faulty("most -1;", 2, 5);
        s.faulty("most 4;most 4;", 3, 7);
    }

    private static void boundNumbers() {
        s.of(4, "A BOUND N N N is A, B -9 .. 9, not both 0, C -999 .. 999");
        String[] heads = {A + "keep a ", A + "harm a ", EDGE + "when "};
        for (String head : heads) {
            int at = head.length();
            int lines = head.startsWith(EDGE) ? 3 : 2;
            s.right(head + "9 -9 999;", lines);
            s.right(head + "-9 9 -999;", lines);
            s.right(head + "0 1 0;", lines);
            s.right(head + "1 0 0;", lines);
            s.right(head + "0 -1 0;", lines);
            s.right(head + "-1 0 0;", lines);
            s.faulty(head + "0 0 0;", 2, at + 2);
            s.faulty(head + "10 1 0;", 2, at);
            s.faulty(head + "-10 1 0;", 2, at);
            s.faulty(head + "1 10 0;", 2, at + 2);
            s.faulty(head + "1 -10 0;", 2, at + 2);
            s.faulty(head + "1 1 1000;", 2, at + 4);
            s.faulty(head + "1 1 -1000;", 2, at + 4);
        }

        s.of(4, "A times x and B times y together are C or less");
        s.due("2 by 3 and 3 by 2 are 12", s.told(A + "keep a 2 3 12;start a 3 3 2 2;").count(3), 1);
        s.due("they aren't 11", s.told(A + "keep a 2 3 11;start a 3 3 2 2;").count(3), 0);
        s.due("-2 by 3 and -3 by 2 are -12", s.told(A + "keep a -2 -3 -12;start a 3 3 2 2;").count(3), 1);
        s.due("they aren't -13", s.told(A + "keep a -2 -3 -13;start a 3 3 2 2;").count(3), 0);

        s.of(4, "Its NORMAL: A, B by what divides both most; C by that, too (a fraction).");
        SlopeChecker x = s.told(A + "keep a 6 9 10;keep a 9 9 7;keep a 0 -8 4;keep a 8 9 999;start a -9 9 -9 9;");
        int[][] normals = {{2, 3, 10, 3}, {1, 1, 7, 9}, {0, -1, 1, 2}};
        for (int[] n : normals) {
            int k = x.normalOf(n[0], n[1]);
            s.due("above of " + n[0] + " " + n[1], x.limit(0, 1, k, 0), n[2]);
            s.due("below of " + n[0] + " " + n[1], x.limit(0, 1, k, 1), n[3]);
        }
        s.due("6 9 isn't one", x.normalOf(6, 9), -2);
        s.due("what nothing divides stays", x.normalOf(8, 9), 6);
    }

    private static void firstAlong() {
        s.of(4, "FAULTS, the first along the text (of one place the least), with its place");
        s.faulty("most 0;most 1!", 2, 5);
        s.faulty("most 1!most 0;", 1, 6);
        s.faulty("most 1;most 0;", 3, 7);
        s.faulty("most 1;most !", 3, 7);
        s.faulty("most 0;!", 2, 5);
        s.faulty(A + "mode a 10 0;", 3, 16);
        s.faulty(A + "mode b 10 !;", 2, 18);
        s.faulty(A + "start a 0 0 0 0;start b;", 3, 27);
        s.faulty(SIX + "mode a !", 2, SIX.length());
        s.faulty(EDGE + "put x 1;put x 1000;", 3, 28);
        s.faulty(EDGE + "put x 1;put x ;", 3, 28);
        s.faulty(EDGE + "put x 1;put ;", 1, 32);
        s.faulty(A + times(4, "keep a 1 0 1;") + "keep b 1 0 1;", 1, 68);
        s.faulty(A + times(4, "keep a 1 0 1;") + "keep a !", 2, 63);
        s.faulty(A + times(10, "edge a a;") + "edge !", 2, 101);
        s.faulty(EDGE + times(4, "when 1 0 1;") + "when !", 2, 64);
        s.faulty("when 10 0 0;", 1, 0);
        s.faulty("put x 1000;", 1, 0);
    }

    private static void cantStand() {
        s.of(4, "1 a TOKEN that is none (a word that is too long, too) or can't stand there (");
        s.faulty("mostmos 4;", 1, 0);
        s.faulty("most 4 4;", 1, 7);
        s.faulty("most a;", 1, 5);
        s.faulty("most ;", 1, 5);
        s.faulty("4;", 1, 0);
        s.faulty("-;", 1, 0);
        s.faulty("a 0 0;", 1, 0);
        s.faulty("most 4;#", 1, 7);
        s.faulty("most 4; mode#", 1, 12);
        s.right("most4;", 1);
        s.right("mode a0-1;", 1);
        s.right("mode a1 0;edge a a;put x1;", 3);
        s.faulty("modea 0 0;", 1, 0);

        s.of(4, "a W that isn't a MODE, but in mode");
        s.right(A + "mode b 0 0;keep b 1 0 0;harm b 1 0 0;edge a b;edge b a;start b 0 0 0 0;", 7);
        s.faulty(A + "keep b 1 0 0;", 1, 16);
        s.faulty(A + "harm b 1 0 0;", 1, 16);
        s.faulty(A + "edge b a;", 1, 16);
        s.faulty(A + "edge a b;", 1, 18);
        s.faulty(A + "start b 0 0 0 0;", 1, 17);
        s.faulty(A + "keep aa 1 0 0;", 1, 16);
        s.faulty("mode aa 0 0;keep a 1 0 0;", 1, 17);

        s.of(4, "when, put, add ahead of any edge");
        String[] early = {"when 1 0 0;", "put x 0;", "add y 0;"};
        for (String line : early) {
            s.faulty(line, 1, 0);
            s.faulty(A + line + "edge a a;", 1, 11);
            s.right(EDGE + line, 3);
        }

        s.of(4, "the length, if more must come");
        String[] tokens = ("mode ab - 1 2 ; keep ab 1 0 3 ; harm ab 0 1 4 ; edge ab ab ; when 1 1 5 ; put x 6 ; add y - 7 ; "
            + "start ab 1 1 1 1 ; most 8 ;").split(" ");
        StringBuilder text = new StringBuilder();
        int lines = 0;
        for (String token : tokens) {
            text.append(token);
            if (token.equals(";")) {
                lines++;
                s.right(text.toString(), lines);
                s.right(text + " \n", lines);
            } else {
                s.faulty(text.toString(), 1, text.length());
                s.faulty(text + " \n", 1, text.length() + 2);
            }
            text.append(' ');
        }
    }

    private static void tooMuch() {
        s.of(4, "2 too much (at it): a number beyond what is said (of a BOUND with A 0: B 0, at it; at '-', if there is one)");
        s.faulty("mode a 10 0;", 2, 7);
        s.faulty("mode a 10 10;", 2, 7);
        s.faulty(A + "keep a 1 1 1000;", 2, 22);
        s.faulty(A + "start a 0 1000 0 0;", 2, 21);
        s.faulty("mode a 0 10;", 2, 9);
        s.faulty("mode a 0 - 10;", 2, 9);
        s.faulty("mode a 0  \n-10;", 2, 11);
        s.faulty(A + "keep a 0 0 0;", 2, 20);
        s.faulty(A + "keep a 0 000 0;", 2, 20);
        s.faulty(A + "keep a 0 -0 0;", 2, 20);
        s.faulty(A + "keep a -0 - 0 0;", 2, 21);
        s.right(A + "keep a 0 -1 0;", 2);
        s.right(A + "keep a -0 1 0;", 2);
        String[] far = {"10", "4294967295", "4294967296", "4294967297", "2147483647", "2147483648", "18446744073709551616",
            "18446744073709551617", "9223372036854775808", "100000000000000000000000000000001"};
        for (String n : far) {
            s.faulty("mode a " + n + " 0;", 2, 7);
            s.faulty("mode a -" + n + " 0;", 2, 7);
            s.faulty("most " + n + ";", 2, 5);
        }

        s.of(4, "a seventh mode and so on (at the word of the LINE)");
        s.faulty(SIX + " \nmode", 2, SIX.length() + 2);
        s.faulty(SIX + "mode a 0 0;", 2, SIX.length());
        s.faulty(A + times(4, "keep a 1 0 1;") + " keep a", 2, 64);
        s.faulty(A + times(3, "harm a 1 0 1;") + " harm a", 2, 51);
        s.faulty(A + times(10, "edge a a;") + " edge", 2, 102);
        s.faulty(EDGE + times(4, "when 1 0 1;") + " when", 2, 65);
        s.right(SIX + times(10, "edge a a;") + times(4, "when 1 0 1;") + times(4, "keep a 1 0 1;") + times(3, "harm f 1 0 1;"), 27);
    }

    private static void normals() {
        s.of(4, "a 25th NORMAL (at the word of the LINE by which it comes; asked behind A, B, ahead of C; of mode behind its SLOPES)");
        s.due("24 NORMALS", s.told(NORMALS_24).count(2), 24);
        int at = NORMALS_24.length();
        s.faulty(NORMALS_24 + "keep c 9 1 1;", 2, at);
        s.faulty(NORMALS_24 + "harm c 9 1 1;", 2, at);
        s.faulty(NORMALS_24 + "edge a a;when 9 1 1;", 2, at + 9);
        s.faulty(NORMALS_24 + "keep c 9 1", 2, at);
        s.faulty(NORMALS_24 + "keep c 9 1 1000;", 2, at);
        s.faulty(NORMALS_24 + "keep c 9 10 1;", 2, at + 9);
        s.faulty(NORMALS_24 + "keep c 9 !", 1, at + 9);
        s.faulty(NORMALS_24 + "keep c 10 1 1;", 2, at + 7);
        s.faulty(NORMALS_24 + "keep g 9 1 1;", 1, at + 5);
        s.faulty(NORMALS_24 + "keep c 9", 1, at + 8);
        s.right(NORMALS_24 + "keep c 8 7 2;harm a -2 1 0;edge a a;when 7 4 0;when -1 0 0;", 20);
        s.right(NORMALS_24 + "mode f 3 6;", 16);
        s.right(NORMALS_24 + "mode f -1 -2;", 16);
        s.right(NORMALS_24 + "mode f 0 0;", 16);
        s.right(NORMALS_24 + "mode f 0 5;", 16);
        s.faulty(NORMALS_24 + "mode f 1 7;", 2, at);
        s.faulty(NORMALS_24 + "mode f 1 7", 2, at);
        s.faulty(NORMALS_24 + "mode f 1 7!", 2, at);
        s.faulty(NORMALS_24 + "mode f 1", 1, at + 8);
        s.faulty(NORMALS_24 + "mode f 1 10;", 2, at + 9);
        s.faulty(NORMALS_24 + "mode x 1 7;", 1, at + 5);
        s.faulty(NORMALS_24 + "mode a 1 7;", 3, at + 5);
        s.due("a mode brings the 23rd and 24th", s.told(NORMALS_22 + "mode f 1 7;").count(2), 24);
        s.faulty(NORMALS_23 + "mode f 1 7;", 2, NORMALS_23.length());
        s.due("it stays at 24, if one of both is there",
            s.told(NORMALS_22 + "keep c -7 1 1;mode f 1 7;").count(2), 24);
    }

    private static void toldAlready() {
        s.of(4, "3 told already: W of mode (at it), start, most, put or add of that size for this edge (at the word of the LINE).");
        s.right("mode a 0 0;mode aa 0 0;mode b 0 0;", 3);
        s.faulty("mode a 0 0;mode a 0 0;", 3, 16);
        s.faulty("mode a 0 0;mode \n a", 3, 18);
        s.right(A + "start a 0 0 0 0;most 1;", 3);
        s.faulty(A + "start a 0 0 0 0; start", 3, 28);
        s.faulty("most 1; most", 3, 8);
        s.faulty(EDGE + "put x 0; put x", 3, 29);
        s.faulty(EDGE + "put x 0; add x", 3, 29);
        s.faulty(EDGE + "add y 0; add y", 3, 29);
        s.faulty(EDGE + "add y 0; put", 1, 32);
        s.right(EDGE + "add y 0;put x 0;edge a a;put x 0;add y 0;", 7);
    }

    private static String times(int n, String line) {
        return Sentences.times(n, line);
    }
}
