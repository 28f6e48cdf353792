/** The borders that the promises 7 to 17 name: what is asked of MODES, EDGES, NORMALS, PARTS and their SETS. */
public final class BoundaryAskTest {
    private static final String COUNTER = "mode a 0 0;start a 0 0 0 0;edge a a;add x 1;most 8;";
    private static final String SIX = "mode a 1 0;mode b 2 0;mode c 3 0;mode d 4 0;mode e 5 0;mode f -9 9;";
    private static final String TEN_EDGES = "mode a 0 0;mode b 0 0;" + Sentences.times(9, "edge a b;") + "edge b a;"
        + "when 1 0 0;when 1 0 0;when 1 0 0;when 1 0 0;put x -999;add y 999;";
    private static final String NORMALS_24 = "mode a 1 2;mode b 1 3;mode c 1 4;mode d 1 5;mode e 1 6;"
        + "keep a 7 1 999;keep a 7 2 999;keep a 7 3 999;keep a 7 4 999;keep b 7 5 999;keep b 7 6 999;keep b 8 1 999;"
        + "keep b 8 3 999;keep c 8 5 999;keep c 8 -9 999;start a 0 0 0 0;";
    /** A box from 0 to 5 and from -2 to 3, with a corner cut off. */
    private static final String BOX = "mode a 0 0;keep a 2 3 14;start a 0 5 -2 3;";
    private static final int[] FAR = {Integer.MIN_VALUE, Integer.MIN_VALUE + 1, Integer.MAX_VALUE - 1, Integer.MAX_VALUE};
    private static final int NO_INT = Sentences.NO_INT;
    private static final long NO_LONG = Sentences.NO_LONG;

    private static Sentences s;

    public static void main(String[] args) throws Exception {
        s = new Sentences(args);
        mode();
        edge();
        normals();
        normal();
        normalOf();
        part();
        limit();
        corner();
        has();
        where();
        within();
        meets();
        s.end(7, 17);
    }

    private static void mode() {
        s.of(7, "Of a MODE, what 0, 1 its SLOPES, 2 BOUNDS that it keeps, 3 BOUNDS of its HARM, 4 EDGES from it, "
            + "5 PARTS that aren't GONE");
        SlopeChecker least = s.told("mode a 0 0;mode b -9 9;");
        SlopeChecker most = s.stepped("mode a 9 -9;" + Sentences.times(4, "keep a 1 0 999;") + Sentences.times(3, "harm a 1 0 -999;")
            + Sentences.times(10, "edge a a;"), 1);
        int[] none = {0, 0, 0, 0, 0, 0};
        int[] all = {9, -9, 4, 3, 10, 0};
        for (int what = 0; what < 6; what++) {
            s.due("least mode(0, " + what + ")", Sentences.modeOr(least, 0, what), none[what]);
            s.due("most mode(0, " + what + ")", Sentences.modeOr(most, 0, what), all[what]);
        }
        s.due("PARTS up to MOST", Sentences.modeOr(s.stepped(COUNTER, 7), 0, 5), 8);
        s.due("PARTS behind MOST", Sentences.modeOr(s.stepped(COUNTER, 8), 0, 5), 8);

        s.of(7, "IndexOutOfBoundsException: no such MODE.");
        SlopeChecker six = s.told(SIX);
        s.due("mode(-1, 0)", Sentences.modeOr(six, -1, 0), Sentences.OUT_OF_BOUNDS);
        s.due("mode(0, 0)", Sentences.modeOr(six, 0, 0), 1);
        s.due("mode(5, 0)", Sentences.modeOr(six, 5, 0), -9);
        s.due("mode(6, 0)", Sentences.modeOr(six, 6, 0), Sentences.OUT_OF_BOUNDS);
        s.due("mode(1, 0) of one", Sentences.modeOr(most, 1, 0), Sentences.OUT_OF_BOUNDS);
        s.due("mode(0, 0) of none", Sentences.modeOr(new SlopeChecker(), 0, 0), Sentences.OUT_OF_BOUNDS);

        s.of(7, "NoSuchElementException: no such what.");
        s.due("mode(0, -1)", Sentences.modeOr(six, 0, -1), Sentences.NO_ELEMENT);
        s.due("mode(5, 1)", Sentences.modeOr(six, 5, 1), 9);
        s.due("mode(0, 5)", Sentences.modeOr(six, 0, 5), 0);
        s.due("mode(0, 6)", Sentences.modeOr(six, 0, 6), Sentences.NO_ELEMENT);
        for (int far : FAR) {
            s.due("mode(0, " + far + ")", Sentences.modeOr(six, 0, far), Sentences.NO_ELEMENT);
            s.due("mode(" + far + ", 0)", Sentences.modeOr(six, far, 0), Sentences.OUT_OF_BOUNDS);
        }

        s.of(7, "IndexOutOfBoundsException ahead of NoSuchElementException.");
        s.due("mode(6, 6)", Sentences.modeOr(six, 6, 6), Sentences.OUT_OF_BOUNDS);
        s.due("mode(-1, -1)", Sentences.modeOr(six, -1, -1), Sentences.OUT_OF_BOUNDS);
        s.due("mode(5, 6)", Sentences.modeOr(six, 5, 6), Sentences.NO_ELEMENT);
    }

    private static void edge() {
        SlopeChecker ten = s.told(TEN_EDGES);
        s.of(8, "Of an EDGE, what 0 from, 1 to, 2 BOUNDS of its GUARD, 3 what is done to x (0 nothing, 1 put, 2 added), "
            + "4 by which number (0), 5, 6 likewise to y");
        int[] first = {0, 1, 0, 0, 0, 0, 0};
        int[] last = {1, 0, 4, 1, -999, 2, 999};
        for (int what = 0; what < 7; what++) {
            s.due("edge(0, " + what + ")", ten.edge(0, what), first[what]);
            s.due("edge(9, " + what + ")", ten.edge(9, what), last[what]);
        }
        SlopeChecker zero = s.told("mode a 0 0;edge a a;put x 0;add y 0;");
        s.due("put by 0", zero.edge(0, 3), 1);
        s.due("put by 0, the number", zero.edge(0, 4), 0);
        s.due("added 0", zero.edge(0, 5), 2);
        s.due("added 0, the number", zero.edge(0, 6), 0);

        s.of(8, "-1000: no such ones.");
        s.due("edge(-1, 0)", ten.edge(-1, 0), -1000);
        s.due("edge(10, 0)", ten.edge(10, 0), -1000);
        s.due("edge(9, 0)", ten.edge(9, 0), 1);
        s.due("edge(9, -1)", ten.edge(9, -1), -1000);
        s.due("edge(9, 7)", ten.edge(9, 7), -1000);
        s.due("edge(1, 0) of one", zero.edge(1, 0), -1000);
        s.due("edge(0, 0) of none", new SlopeChecker().edge(0, 0), -1000);
        for (int far : FAR) {
            s.due("edge(0, " + far + ")", ten.edge(0, far), -1000);
            s.due("edge(" + far + ", 0)", ten.edge(far, 0), -1000);
        }
    }

    private static void normalsAre(String text, int[][] want) {
        SlopeChecker x = s.told(text);
        s.due("NORMALS of " + text, x.count(2), 4 + want.length);
        for (int i = 0; i < want.length; i++) {
            s.due("normal(" + (4 + i) + ", 0) of " + text, x.normal(4 + i, 0), want[i][0]);
            s.due("normal(" + (4 + i) + ", 1) of " + text, x.normal(4 + i, 1), want[i][1]);
        }
    }

    private static void normals() {
        s.of(9, "NORMALS: 0 (1, 0), 1 (-1, 0), 2 (0, 1), 3 (0, -1), then, as they first come in the text, those of BOUNDS");
        int[][] four = {{1, 0}, {-1, 0}, {0, 1}, {0, -1}};
        SlopeChecker x = new SlopeChecker();
        for (int k = 0; k < 4; k++) {
            s.due("new normal(" + k + ", 0)", x.normal(k, 0), four[k][0]);
            s.due("new normal(" + k + ", 1)", x.normal(k, 1), four[k][1]);
        }
        s.due("new normal(4, 0)", x.normal(4, 0), -1000);
        normalsAre("mode a 0 0;keep a 9 0 1;keep a 0 -9 1;", new int[][] {});
        normalsAre("mode a 0 0;harm a 2 4 1;keep a 1 2 5;keep a -1 -2 1;edge a a;when 9 8 1;",
            new int[][] {{1, 2}, {-1, -2}, {9, 8}});

        s.of(9, "and of a mode with SLOPES p, q, not both 0: (-q, p), then (q, -p), by what divides both most.");
        normalsAre("mode a 0 0;", new int[][] {});
        normalsAre("mode a 0 1;mode b -9 0;", new int[][] {});
        normalsAre("mode a 1 1;", new int[][] {{-1, 1}, {1, -1}});
        normalsAre("mode a 9 -9;", new int[][] {{1, 1}, {-1, -1}});
        normalsAre("mode a -6 4;mode b 3 -2;", new int[][] {{-2, -3}, {2, 3}});
        normalsAre("mode a 0 0;keep a 2 -1 0;mode b 1 2;", new int[][] {{2, -1}, {-2, 1}});

        s.of(9, "At most 24.");
        s.due("24", s.told(NORMALS_24).count(2), 24);
        full();
        SlopeChecker more = s.told(NORMALS_24);
        s.due("no 25th", Sentences.tell(more, NORMALS_24 + "keep c 9 1 1;"), -1);
        s.due("its FAULT", more.fault(0), 2);
    }

    /** With 24 NORMALS all that goes over them can be asked. */
    private static void full() {
        SlopeChecker x = s.told(NORMALS_24 + "edge a b;add x 1;edge b a;add x 1;most 1;");
        s.due("STEPS with 24", x.step(3), 3);
        s.due("PARTS with 24", x.count(3), 4);
        s.due("JOINED with 24", x.check(8), 2);
        s.due("PART 0 in PART 2", x.within(0, 2), 1);
        s.due("PART 2 in PART 0", x.within(2, 0), 0);
        s.due("has with 24", x.has(2, 0, 2, 0, 1), 1);
        s.due("has not with 24", x.has(2, 0, 61, 0, 30), 0);
        s.due("where with 24", x.where(0, 0, 0, 1), 2);
        s.due("meets with 24", x.meets(0, 8, -9, -999), 0);
        s.due("way with 24", x.way(1), 2);
        s.due("OUT of its first place", x.onWay(1, 0, 5), 0);
        s.due("ride with 24", x.ride(0, 0, 0, 1, 4), 4);
        s.due("followed with 24", x.followed(), 0);
        s.due("corners of a line with 24", x.part(0, 8), 2);
        s.due("ifMost with 24", x.ifMost(8, 3, 0), 4);
        SlopeChecker put = s.stepped(NORMALS_24 + "edge a b;put y 3;edge a b;put x 4;edge a b;put x 0;put y 100;most 8;", 1);
        for (int p = 1; p <= 3; p++) {
            s.due("way with 24, put, to " + p, put.way(p), 2);
            s.due("OUT of its first place, to " + p, put.onWay(p, 0, 7), 0);
        }
    }

    private static void normal() {
        s.of(9, "A NORMAL, what 0, 1 its parts; -1000: no such ones.");
        SlopeChecker x = s.told(NORMALS_24);
        s.due("normal(-1, 0)", x.normal(-1, 0), -1000);
        s.due("normal(0, 0)", x.normal(0, 0), 1);
        s.due("normal(23, 0)", x.normal(23, 0), 8);
        s.due("normal(23, 1)", x.normal(23, 1), -9);
        s.due("normal(24, 0)", x.normal(24, 0), -1000);
        s.due("normal(23, -1)", x.normal(23, -1), -1000);
        s.due("normal(23, 2)", x.normal(23, 2), -1000);
        for (int far : FAR) {
            s.due("normal(" + far + ", 0)", x.normal(far, 0), -1000);
            s.due("normal(0, " + far + ")", x.normal(0, far), -1000);
        }
    }

    private static void normalOf() {
        s.of(10, "The number of a NORMAL (its parts a, b as they are told there); -2: there is none such.");
        SlopeChecker x = s.told("mode a 0 0;keep a 6 -9 1;keep a 9 8 1;");
        s.due("normalOf(1, 0)", x.normalOf(1, 0), 0);
        s.due("normalOf(0, -1)", x.normalOf(0, -1), 3);
        s.due("normalOf(2, -3)", x.normalOf(2, -3), 4);
        s.due("normalOf(9, 8)", x.normalOf(9, 8), 5);
        s.due("normalOf(6, -9)", x.normalOf(6, -9), -2);
        s.due("normalOf(-2, 3)", x.normalOf(-2, 3), -2);
        s.due("normalOf(2, 0)", x.normalOf(2, 0), -2);
        s.due("normalOf(0, 0)", x.normalOf(0, 0), -2);
        s.due("normalOf(9, 9)", x.normalOf(9, 9), -2);
        s.due("normalOf(10, 8)", x.normalOf(10, 8), -2);
        for (int far : FAR) {
            s.due("normalOf(" + far + ", 0)", x.normalOf(far, 0), -2);
            s.due("normalOf(0, " + far + ")", x.normalOf(0, far), -2);
        }
        s.due("the last of 24", s.told(NORMALS_24).normalOf(8, -9), 23);
    }

    private static void part() {
        s.of(11, "PARTS have numbers from 0 on: MODE, ENTRY (a SET), SET, what it came from (PART, EDGE), DEPTH, EXACT, OPEN, GONE.");
        SlopeChecker three = s.stepped("mode a 0 0;mode b 1 0;keep b 1 0 9;start a 0 1 0 0;edge a b;add x 5;edge b a;put x 0;add y 2;", 2);
        int[][] all = {{0, -2, -2, 0, 1, 0, 0}, {1, 0, 0, 1, 1, 0, 0}, {0, 1, 1, 2, 1, 1, 0}};
        int[][] entries = {{1, 0, 0, 0}, {6, -5, 0, 0}, {0, 0, 2, -2}};
        int[][] sets = {{1, 0, 0, 0}, {9, -5, 0, 0}, {0, 0, 2, -2}};
        s.due("three", three.count(3), 3);
        for (int p = 0; p < 3; p++) {
            for (int what = 0; what < 7; what++) {
                s.due("part(" + p + ", " + what + ")", three.part(p, what), all[p][what]);
            }
            for (int k = 0; k < 4; k++) {
                s.due("ENTRY of " + p + ", LIMIT " + k, three.limit(p, 0, k, 0), entries[p][k]);
                s.due("SET of " + p + ", LIMIT " + k, three.limit(p, 1, k, 0), sets[p][k]);
            }
        }
        s.due("no fourth", three.part(3, 0), -1);

        s.of(11, "Of a PART, what 0 MODE, 1 the PART it came from (-2: none), 2 the EDGE (-2), 3 DEPTH");
        SlopeChecker x = s.stepped(COUNTER, 60);
        int[][] want = {{0, -2, -2, 0}, {0, 0, 0, 1}};
        for (int p = 0; p < 2; p++) {
            for (int what = 0; what < 4; what++) {
                s.due("part(" + p + ", " + what + ")", x.part(p, what), want[p][what]);
            }
        }
        s.due("part(59, 1)", x.part(59, 1), 58);
        s.due("part(59, 3)", x.part(59, 3), 59);

        s.of(11, "4 EXACT (1, 0), 5 OPEN, 6 GONE, 7 HARMED");
        SlopeChecker four = s.stepped("mode a 0 0;start a 0 0 0 0;edge a a;add x 1;most 1;harm a -1 0 -1;", 2);
        int[][] bits = {{1, 0, 1, 0}, {0, 0, 1, 1}, {0, 1, 0, 1}};
        for (int p = 0; p < 3; p++) {
            for (int what = 4; what < 8; what++) {
                s.due("part(" + p + ", " + what + ")", four.part(p, what), bits[p][what - 4]);
            }
        }

        s.of(11, "8 corners of its SET, 9 of its ENTRY");
        SlopeChecker grown = s.told("mode a 1 0;start a 0 0 0 0;");
        s.due("corners of a point", grown.part(0, 9), 1);
        s.due("corners of a line", grown.part(0, 8), 2);
        s.due("corners of a box cut once", s.told(BOX).part(0, 8), 5);
        s.due("corners of a box cut in its corner", s.told("mode a 0 0;keep a 2 3 19;start a 0 5 -2 3;").part(0, 8), 4);
        s.due("corners of a box cut four times", s.told("mode a 0 0;keep a 1 1 9;keep a 1 -1 9;keep a -1 1 9;keep a -1 -1 9;"
            + "start a -5 5 -5 5;").part(0, 8), 8);
        s.due("corners of a triangle", s.told("mode a 0 0;keep a 1 1 0;start a -5 5 -5 5;").part(0, 8), 3);

        s.of(11, "NONE: no such ones.");
        s.due("part(-1, 0)", x.part(-1, 0), -1);
        s.due("part(0, 0)", x.part(0, 0), 0);
        s.due("part(59, 0)", x.part(59, 0), 0);
        s.due("part(60, 0)", x.part(60, 0), -1);
        s.due("part(59, -1)", x.part(59, -1), -1);
        s.due("part(59, 9)", x.part(59, 9), 2);
        s.due("part(59, 10)", x.part(59, 10), -1);
        s.due("part(1, 0) of one", grown.part(1, 0), -1);
        s.due("part(0, 0) of none", s.told("mode a 0 0;").part(0, 0), -1);
        for (int far : FAR) {
            s.due("part(" + far + ", 0)", x.part(far, 0), -1);
            s.due("part(0, " + far + ")", x.part(0, far), -1);
        }
    }

    private static void limit() {
        s.of(12, "FRACTIONS are in lowest terms, what is below above 0.");
        SlopeChecker x = s.told("mode a 0 0;keep a 8 0 6;keep a -6 0 -4;keep a 0 4 -6;start a 0 9 -9 9;");
        int[][] want = {{3, 4}, {-2, 3}, {-3, 2}, {9, 1}};
        for (int k = 0; k < 4; k++) {
            s.due("limit(0, 1, " + k + ", 0)", x.limit(0, 1, k, 0), want[k][0]);
            s.due("limit(0, 1, " + k + ", 1)", x.limit(0, 1, k, 1), want[k][1]);
        }
        for (int d = 2; d <= 9; d++) {
            SlopeChecker whole = s.told("mode a 0 0;keep a " + d + " 0 " + 3 * d + ";start a -9 9 0 0;");
            s.due("3 by " + d, whole.limit(0, 1, 0, 0), 3);
            s.due("1 below by " + d, whole.limit(0, 1, 0, 1), 1);
        }
        SlopeChecker zero = s.told("mode a 0 0;keep a 7 0 0;start a -9 9 0 0;");
        s.due("0 above", zero.limit(0, 1, 0, 0), 0);
        s.due("0 has 1 below", zero.limit(0, 1, 0, 1), 1);

        s.of(12, "A SET is told by a LIMIT for each NORMAL");
        SlopeChecker six = s.told("mode a 0 0;start a 1 3 4 9;harm a 2 -1 0;harm a -1 2 0;");
        int[] told = {3, -1, 9, -4, 2, 17};
        s.due("as many as NORMALS", six.count(2), told.length);
        for (int k = 0; k < told.length; k++) {
            s.due("LIMIT " + k, six.limit(0, 1, k, 0), told[k]);
            s.due("LIMIT " + k + ", below", six.limit(0, 1, k, 1), 1);
        }
        s.due("behind the last", six.limit(0, 1, told.length, 0), NO_INT);

        s.of(12, "LIMITS are TIGHT: the greatest there is in the SET");
        SlopeChecker loose = s.told("mode a 0 0;keep a 1 1 10;start a 0 5 0 5;");
        s.due("a BOUND in the corner", loose.limit(0, 1, 4, 0), 10);
        loose = s.told("mode a 0 0;keep a 1 1 11;start a 0 5 0 5;");
        s.due("a BOUND off the corner", loose.limit(0, 1, 4, 0), 10);
        loose = s.told("mode a 0 0;keep a 1 1 9;start a 0 5 0 5;");
        s.due("a BOUND that cuts the corner off", loose.limit(0, 1, 4, 0), 9);
        s.due("the side stays", loose.limit(0, 1, 0, 0), 5);
        loose = s.told("mode a 0 0;keep a 1 1 4;start a 0 5 0 5;");
        s.due("the side doesn't", loose.limit(0, 1, 0, 0), 4);

        s.of(12, "The LIMIT of a NORMAL in a PART's ENTRY (which 0), SET (1), what 0 above, 1 below");
        SlopeChecker half = s.told("mode a 1 0;keep a 2 0 9;keep a -3 0 -4;start a 1 2 5 5;");
        int[][] limits = {{2, 1, 9, 2}, {-4, 3, -4, 3}, {5, 1, 5, 1}, {-5, 1, -5, 1}};
        for (int k = 0; k < 4; k++) {
            for (int i = 0; i < 4; i++) {
                s.due("limit(0, " + i / 2 + ", " + k + ", " + i % 2 + ")", half.limit(0, i / 2, k, i % 2), limits[k][i]);
            }
        }

        s.of(12, "Integer.MIN_VALUE: no such ones.");
        SlopeChecker last = s.stepped(COUNTER, 60);
        s.due("limit(-1, 0, 0, 0)", last.limit(-1, 0, 0, 0), NO_INT);
        s.due("limit(0, 0, 0, 0)", last.limit(0, 0, 0, 0), 0);
        s.due("limit(59, 1, 3, 1)", last.limit(59, 1, 3, 1), 1);
        s.due("limit(60, 0, 0, 0)", last.limit(60, 0, 0, 0), NO_INT);
        s.due("limit(0, -1, 0, 0)", last.limit(0, -1, 0, 0), NO_INT);
        s.due("limit(0, 2, 0, 0)", last.limit(0, 2, 0, 0), NO_INT);
        s.due("limit(0, 0, -1, 0)", last.limit(0, 0, -1, 0), NO_INT);
        s.due("limit(0, 0, 4, 0)", last.limit(0, 0, 4, 0), NO_INT);
        s.due("limit(0, 0, 0, -1)", last.limit(0, 0, 0, -1), NO_INT);
        s.due("limit(0, 0, 0, 2)", last.limit(0, 0, 0, 2), NO_INT);
        SlopeChecker many = s.told(NORMALS_24);
        s.due("limit(0, 0, 23, 0)", many.limit(0, 0, 23, 0), 0);
        s.due("limit(0, 0, 24, 0)", many.limit(0, 0, 24, 0), NO_INT);
        for (int far : FAR) {
            s.due("limit(" + far + ", 0, 0, 0)", last.limit(far, 0, 0, 0), NO_INT);
            s.due("limit(0, " + far + ", 0, 0)", last.limit(0, far, 0, 0), NO_INT);
            s.due("limit(0, 0, " + far + ", 0)", last.limit(0, 0, far, 0), NO_INT);
            s.due("limit(0, 0, 0, " + far + ")", last.limit(0, 0, 0, far), NO_INT);
        }
    }

    private static void corner() {
        s.of(13, "Corners of a SET: points of it in which two NORMALS that aren't alike or turned about both have their LIMITS, each once, "
            + "by x, then by y, rising");
        SlopeChecker x = s.told(BOX);
        long[][] want = {{0, 1, -2, 1}, {0, 1, 3, 1}, {5, 2, 3, 1}, {5, 1, -2, 1}, {5, 1, 4, 3}};
        for (int i = 0; i < want.length; i++) {
            for (int what = 0; what < 4; what++) {
                s.due("corner(0, 1, " + i + ", " + what + ")", x.corner(0, 1, i, what), want[i][what]);
            }
        }
        SlopeChecker line = s.told("mode a 1 0;keep a 2 0 9;start a -1 -1 3 3;harm a 1 1 0;harm a 1 -1 0;");
        s.due("corners of a line", line.part(0, 8), 2);
        s.due("x of its first", line.corner(0, 1, 0, 0), -1);
        s.due("x of its last", line.corner(0, 1, 1, 0), 9);
        s.due("x of its last, below", line.corner(0, 1, 1, 1), 2);
        s.due("no third", line.corner(0, 1, 2, 0), NO_LONG);
        s.due("corners of a point", line.part(0, 9), 1);
        s.due("no second", line.corner(0, 0, 1, 0), NO_LONG);

        s.of(13, "The i-th of a PART's ENTRY (which 0), SET (1), what 0, 1 x above, below, 2, 3 y");
        long[][] ends = {{-1, 1, 3, 1}, {-1, 1, 3, 1}, {9, 2, 3, 1}};
        for (int what = 0; what < 4; what++) {
            s.due("corner(0, 0, 0, " + what + ")", line.corner(0, 0, 0, what), ends[0][what]);
            s.due("corner(0, 1, 0, " + what + ")", line.corner(0, 1, 0, what), ends[1][what]);
            s.due("corner(0, 1, 1, " + what + ")", line.corner(0, 1, 1, what), ends[2][what]);
        }

        s.of(13, "Long.MIN_VALUE: there are no such ones.");
        s.due("corner(-1, 1, 0, 0)", x.corner(-1, 1, 0, 0), NO_LONG);
        s.due("corner(0, 1, 0, 0)", x.corner(0, 1, 0, 0), 0);
        s.due("corner(1, 1, 0, 0)", x.corner(1, 1, 0, 0), NO_LONG);
        s.due("corner(0, -1, 0, 0)", x.corner(0, -1, 0, 0), NO_LONG);
        s.due("corner(0, 2, 0, 0)", x.corner(0, 2, 0, 0), NO_LONG);
        s.due("corner(0, 1, -1, 0)", x.corner(0, 1, -1, 0), NO_LONG);
        s.due("corner(0, 1, 4, 0)", x.corner(0, 1, 4, 0), 5);
        s.due("corner(0, 1, 5, 0)", x.corner(0, 1, 5, 0), NO_LONG);
        s.due("corner(0, 1, 0, -1)", x.corner(0, 1, 0, -1), NO_LONG);
        s.due("corner(0, 1, 0, 3)", x.corner(0, 1, 0, 3), 1);
        s.due("corner(0, 1, 0, 4)", x.corner(0, 1, 0, 4), NO_LONG);
        SlopeChecker last = s.stepped(COUNTER, 60);
        s.due("corner(59, 1, 1, 0)", last.corner(59, 1, 1, 0), 59);
        s.due("corner(60, 1, 0, 0)", last.corner(60, 1, 0, 0), NO_LONG);
        for (int far : FAR) {
            s.due("corner(" + far + ", 1, 0, 0)", x.corner(far, 1, 0, 0), NO_LONG);
            s.due("corner(0, " + far + ", 0, 0)", x.corner(0, far, 0, 0), NO_LONG);
            s.due("corner(0, 1, " + far + ", 0)", x.corner(0, 1, far, 0), NO_LONG);
            s.due("corner(0, 1, 0, " + far + ")", x.corner(0, 1, 0, far), NO_LONG);
        }
    }

    private static void has() {
        s.of(14, "Whether a point (x by n, y by n; x, y -30000 .. 30000, n 1 .. 30) is in a PART's ENTRY (which 0), SET (1) (1, 0)");
        SlopeChecker x = s.told("mode a 1 0;keep a 7 0 9;start a 0 1 -2 3;");
        s.due("its corner", x.has(0, 0, 1, 3, 1), 1);
        s.due("its corner by 30", x.has(0, 0, 30, 90, 30), 1);
        s.due("a thirtieth to the right", x.has(0, 0, 31, 90, 30), 0);
        s.due("a thirtieth up", x.has(0, 0, 30, 91, 30), 0);
        s.due("a thirtieth to the left", x.has(0, 0, -1, 0, 30), 0);
        s.due("a thirtieth down", x.has(0, 0, 0, -61, 30), 0);
        s.due("in the SET", x.has(0, 1, 31, 90, 30), 1);
        s.due("the end of the SET", x.has(0, 1, 9, 0, 7), 1);
        s.due("the end of the SET by 28", x.has(0, 1, 36, 0, 28), 1);
        s.due("a bit behind it", x.has(0, 1, 37, 0, 28), 0);
        SlopeChecker wide = s.told("mode a 0 0;start a -999 999 -999 999;");
        s.due("30000 by 30", wide.has(0, 1, 30000, 0, 30), 0);
        s.due("29970 by 30", wide.has(0, 1, 29970, -29970, 30), 1);
        s.due("29971 by 30", wide.has(0, 1, 0, 29971, 30), 0);
        SlopeChecker all = s.told("mode a 1 0;start a -999 -999 -999 999;");
        s.due("1000", all.has(0, 1, 30000, 0, 30), 1);

        s.of(14, "its points are those of which each NORMAL (its parts times x, times y, together) is its LIMIT or less");
        SlopeChecker slant = s.told("mode a 0 0;keep a 2 3 14;keep a -3 1 4;start a -9 9 -9 9;");
        s.due("2 by 4 and 3 by 2", slant.has(0, 1, 4, 2, 1), 1);
        s.due("a thirtieth to the right of it", slant.has(0, 1, 121, 60, 30), 0);
        s.due("a thirtieth above it", slant.has(0, 1, 120, 61, 30), 0);
        s.due("-3 by -1 and 1 by 1", slant.has(0, 1, -1, 1, 1), 1);
        s.due("a thirtieth to the left of it", slant.has(0, 1, -31, 30, 30), 0);
        s.due("a thirtieth above that", slant.has(0, 1, -30, 31, 30), 0);
        s.due("both: 2/11 and 50/11", slant.has(0, 1, 4, 100, 22), 1);
        s.due("a bit above both", slant.has(0, 1, 4, 101, 22), 0);

        s.of(14, "NONE: no such ones.");
        s.due("x 30001", x.has(0, 1, 30001, 0, 30), -1);
        s.due("x 30000", x.has(0, 1, 30000, 0, 30), 0);
        s.due("x -30001", x.has(0, 1, -30001, 0, 30), -1);
        s.due("x -30000", x.has(0, 1, -30000, 0, 30), 0);
        s.due("y 30001", x.has(0, 1, 0, 30001, 30), -1);
        s.due("y 30000", x.has(0, 1, 0, 30000, 30), 0);
        s.due("y -30001", x.has(0, 1, 0, -30001, 30), -1);
        s.due("y -30000", x.has(0, 1, 0, -30000, 30), 0);
        s.due("n 0", x.has(0, 1, 0, 0, 0), -1);
        s.due("n 1", x.has(0, 1, 0, 0, 1), 1);
        s.due("n 30", x.has(0, 1, 0, 0, 30), 1);
        s.due("n 31", x.has(0, 1, 0, 0, 31), -1);
        s.due("n -1", x.has(0, 1, 0, 0, -1), -1);
        s.due("which -1", x.has(0, -1, 0, 0, 1), -1);
        s.due("which 2", x.has(0, 2, 0, 0, 1), -1);
        s.due("PART -1", x.has(-1, 1, 0, 0, 1), -1);
        s.due("PART 1", x.has(1, 1, 0, 0, 1), -1);
        for (int far : FAR) {
            s.due("PART " + far, x.has(far, 1, 0, 0, 1), -1);
            s.due("which " + far, x.has(0, far, 0, 0, 1), -1);
            s.due("x " + far, x.has(0, 1, far, 0, 1), -1);
            s.due("y " + far, x.has(0, 1, 0, far, 1), -1);
            s.due("n " + far, x.has(0, 1, 0, 0, far), -1);
        }
    }

    private static void where() {
        s.of(15, "Whether a point (as of has()) is in the SET of a PART of a MODE that isn't GONE: the first such PART; -2: of none");
        SlopeChecker x = s.stepped("mode a 0 0;mode b 0 0;start a 0 2 0 0;edge a a;add x 2;when 1 0 2;edge a b;when 1 0 2;", 1);
        s.due("in PART 0 alone", x.where(0, 59, 0, 30), 0);
        s.due("in PARTS 0 and 1", x.where(0, 2, 0, 1), 0);
        s.due("in PART 1 alone", x.where(0, 61, 0, 30), 1);
        s.due("at the end of PART 1", x.where(0, 4, 0, 1), 1);
        s.due("behind it", x.where(0, 121, 0, 30), -2);
        s.due("of the other MODE", x.where(1, 2, 0, 1), 2);
        s.due("of the other MODE, off it", x.where(1, 61, 0, 30), -2);
        SlopeChecker gone = s.stepped("mode a 0 0;start a 0 0 0 0;edge a a;add x 1;most 1;", 1);
        s.due("not in PART 0, that is GONE", gone.where(0, 0, 0, 1), 1);
        s.due("no PARTS", s.told("mode a 0 0;").where(0, 0, 0, 1), -2);

        s.of(15, "NONE: no such ones.");
        s.due("MODE -1", x.where(-1, 0, 0, 1), -1);
        s.due("MODE 1", x.where(1, 0, 0, 1), 2);
        s.due("MODE 2", x.where(2, 0, 0, 1), -1);
        s.due("x 30000", x.where(0, 30000, 0, 1), -2);
        s.due("x 30001", x.where(0, 30001, 0, 1), -1);
        s.due("x -30000", x.where(0, -30000, 0, 1), -2);
        s.due("x -30001", x.where(0, -30001, 0, 1), -1);
        s.due("y 30000", x.where(0, 0, 30000, 1), -2);
        s.due("y 30001", x.where(0, 0, 30001, 1), -1);
        s.due("y -30000", x.where(0, 0, -30000, 1), -2);
        s.due("y -30001", x.where(0, 0, -30001, 1), -1);
        s.due("n 0", x.where(0, 0, 0, 0), -1);
        s.due("n 1", x.where(0, 0, 0, 1), 0);
        s.due("n 30", x.where(0, 0, 0, 30), 0);
        s.due("n 31", x.where(0, 0, 0, 31), -1);
        for (int far : FAR) {
            s.due("MODE " + far, x.where(far, 0, 0, 1), -1);
            s.due("x " + far, x.where(0, far, 0, 1), -1);
            s.due("y " + far, x.where(0, 0, far, 1), -1);
            s.due("n " + far, x.where(0, 0, 0, far), -1);
        }
    }

    private static void within() {
        s.of(16, "Whether the SET of a PART lies in that of another one (1, 0; MODES aren't asked)");
        SlopeChecker x = s.stepped("mode a 0 0;mode b 0 0;mode c 0 0;start a 0 2 0 0;edge a b;edge a b;add x 1;edge a c;when 2 0 3;", 1);
        s.due("in itself", x.within(0, 0), 1);
        s.due("in the same SET of another MODE", x.within(1, 0), 1);
        s.due("turned about", x.within(0, 1), 1);
        s.due("one to the right", x.within(2, 0), 0);
        s.due("one to the right, turned about", x.within(0, 2), 0);
        s.due("a half less", x.within(3, 0), 1);
        s.due("a half more", x.within(0, 3), 0);
        SlopeChecker y = s.stepped("mode a 0 0;start a 0 2 -3 3;edge a a;put x 2;add y 1;", 1);
        s.due("above by one", y.within(1, 0), 0);

        s.of(16, "NONE: no such ones.");
        SlopeChecker last = s.stepped(COUNTER, 60);
        s.due("within(59, 59)", last.within(59, 59), 1);
        s.due("within(60, 0)", last.within(60, 0), -1);
        s.due("within(0, 60)", last.within(0, 60), -1);
        s.due("within(-1, 0)", last.within(-1, 0), -1);
        s.due("within(0, -1)", last.within(0, -1), -1);
        s.due("within(0, 0)", last.within(0, 0), 1);
        for (int far : FAR) {
            s.due("within(" + far + ", 0)", last.within(far, 0), -1);
            s.due("within(0, " + far + ")", last.within(0, far), -1);
        }
    }

    private static void meets() {
        SlopeChecker x = s.told(BOX);
        s.of(17, "Whether a PART's SET has points that hold a BOUND (A, B, C as of a TEXT, its NORMAL being one there is) (1, 0)");
        s.due("x 5 or more", x.meets(0, -1, 0, -5), 1);
        s.due("x 6 or more", x.meets(0, -1, 0, -6), 0);
        s.due("x 46/9 or more", x.meets(0, -9, 0, -46), 0);
        s.due("x 0 or less", x.meets(0, 1, 0, 0), 1);
        s.due("x -1/9 or less", x.meets(0, 9, 0, -1), 0);
        s.due("2x + 3y -6 or less", x.meets(0, 2, 3, -6), 1);
        s.due("2x + 3y -7 or less", x.meets(0, 2, 3, -7), 0);
        s.due("6x + 9y -18 or less", x.meets(0, 6, 9, -18), 1);
        s.due("6x + 9y -19 or less", x.meets(0, 6, 9, -19), 0);
        SlopeChecker fine = s.stepped("mode a -7 9;keep a -1 8 28;mode b 5 -1;start a 0 0 -20 -20;edge a b;when 1 -8 -28;"
            + "keep b -9 -7 999;harm b 9 7 999;", 1);
        s.due("cut where 3002 is below", fine.meets(1, -9, -7, 25), 1);

        s.of(17, "-2: no such NORMAL");
        s.due("-2 -3", x.meets(0, -2, -3, 0), -2);
        s.due("2 3", x.meets(0, 2, 3, 0), 1);
        s.due("4 6", x.meets(0, 4, 6, 0), 1);
        s.due("8 9", x.meets(0, 8, 9, 0), -2);

        s.of(17, "NONE: no such ones.");
        s.due("A 9", x.meets(0, 9, 0, 0), 1);
        s.due("A 10", x.meets(0, 10, 0, 0), -1);
        s.due("A -9", x.meets(0, -9, 0, 0), 1);
        s.due("A -10", x.meets(0, -10, 0, 0), -1);
        s.due("B 9", x.meets(0, 0, 9, 0), 1);
        s.due("B 10", x.meets(0, 0, 10, 0), -1);
        s.due("B -9", x.meets(0, 0, -9, 0), 1);
        s.due("B -10", x.meets(0, 0, -10, 0), -1);
        s.due("both 0", x.meets(0, 0, 0, 0), -1);
        s.due("0 1", x.meets(0, 0, 1, 0), 1);
        s.due("0 -1", x.meets(0, 0, -1, 0), 1);
        s.due("1 0", x.meets(0, 1, 0, 0), 1);
        s.due("-1 0", x.meets(0, -1, 0, 0), 1);
        s.due("C 999", x.meets(0, 1, 0, 999), 1);
        s.due("C 1000", x.meets(0, 1, 0, 1000), -1);
        s.due("C -999", x.meets(0, 1, 0, -999), 0);
        s.due("C -1000", x.meets(0, 1, 0, -1000), -1);
        s.due("PART -1", x.meets(-1, 1, 0, 0), -1);
        s.due("PART 1", x.meets(1, 1, 0, 0), -1);
        s.due("no PART, no NORMAL", x.meets(1, 8, 9, 0), -1);
        s.due("no C, no NORMAL", x.meets(0, 8, 9, 1000), -1);
        for (int far : FAR) {
            s.due("PART " + far, x.meets(far, 1, 0, 0), -1);
            s.due("A " + far, x.meets(0, far, 0, 0), -1);
            s.due("B " + far, x.meets(0, 1, far, 0), -1);
            s.due("C " + far, x.meets(0, 1, 0, far), -1);
        }
    }
}
