import java.math.BigInteger;

/** The borders that the promises 18 to 24 name: WAYS and RIDES (==== 3.). */
public final class BoundaryWayTest {
    private static final String COUNTER = "mode a 0 0;start a 0 0 0 0;edge a a;add x 1;most 8;";
    /** A ring of six MODES, one to the right by each EDGE: 48 PARTS that are EXACT, then JOINED ones. */
    private static final String RING = "mode a 0 0;mode b 0 0;mode c 0 0;mode d 0 0;mode e 0 0;mode f 0 0;start a 0 0 0 0;"
        + "edge a b;add x 1;edge b c;add x 1;edge c d;add x 1;edge d e;add x 1;edge e f;add x 1;edge f a;add x 1;most 8;";
    private static final String BOUNCE = "mode a 1 0;mode b 0 1;keep a 1 0 10;edge a b;when -1 0 -4;"
        + "edge b a;when 0 -1 -6;put x 0;start a 0 2 0 0;harm b 0 -1 -8;";
    /** Nine EDGES that put and add other numbers, then a tenth. */
    private static final String TEN = "mode a 0 0;mode b 0 0;start a 1 2 3 4;" + Sentences.times(5, "edge b b;add x 20;put y 30;")
        + Sentences.times(4, "edge b b;put x 40;add y 50;") + "edge a b;";
    /** PART 1 is EXACT; OUT of its WAY would have 3002 below. */
    private static final String OUT_3002 = "mode a -7 9;keep a -1 8 28;mode b 5 -1;start a 0 0 -20 -20;edge a b;when 1 -8 -28;"
        + "harm b -9 -7 25;";
    /** From 0, Y four times by 7, 10 more behind the second; then 999 less, and up to 251, which takes 1250 - (Y + 490)/2401. */
    private static final String UP = "mode a 1 -7;keep a 0 -1 0;mode b -7 1;keep b -1 0 0;mode c 0 1;mode d 0 0;edge a b;when 0 1 0;"
        + "edge b a;when 1 0 0;when 0 -1 -12;add y 10;edge b c;when 1 0 0;when 0 1 1;add y -999;edge c d;when 0 -1 -251;"
        + "harm c 0 -1 -251;most 8;";
    /** Its TIMES together have 999999840 below. */
    private static final String[] SUM_TOLD = {
        "mode a -4 7;keep a 9 8 9;mode b -8 -8;keep b -8 -9 57;mode c 1 8;keep c 1 6 55;mode d -8 -5;keep d -2 -9 -11;"
        + "mode e 9 6;keep e 9 7 25;start a 0 0 0 0;edge a b;when -9 -8 -9;edge b c;when 8 9 -57;put x 0;put y 0;"
        + "edge c d;when -1 -6 -55;edge d e;when 2 9 11;put x 0;put y 0;",
        "harm e -9 -7 -25;",
        "mode f 9 6;keep f 9 7 98;edge e f;when -9 -7 -25;put x 0;put y 0;harm f -9 -7 -98;"};
    /** Its TIMES together have 1000003810 below. */
    private static final String[] SUM_TOO_FINE = {
        "mode a -8 -5;keep a -9 -7 4;mode b 4 6;keep b -4 7 23;mode c 3 4;keep c 3 7 54;mode d -7 -4;keep d -9 -1 -13;"
        + "mode e 8 9;keep e 8 9 7;start a 0 0 0 0;edge a b;when 9 7 -4;edge b c;when 4 -7 -23;put x 0;put y 0;"
        + "edge c d;when -3 -7 -54;edge d e;when 9 1 13;put x 0;put y 0;",
        "harm e -8 -9 -7;",
        "mode f 8 9;keep f 8 9 138;edge e f;when -8 -9 -7;put x 0;put y 0;harm f -8 -9 -138;"};
    private static final int[] FAR = {Integer.MIN_VALUE, Integer.MIN_VALUE + 1, Integer.MAX_VALUE - 1, Integer.MAX_VALUE};
    private static final int NO_INT = Sentences.NO_INT;

    private static Sentences s;

    public static void main(String[] args) throws Exception {
        s = new Sentences(args);
        way();
        wayBeyond();
        places();
        onWay();
        wayTime();
        beginsOrNot();
        ride();
        firstEdge();
        jumpsOrNot();
        ridden();
        ended();
        endedBeyond();
        followed();
        s.end(18, 24);
    }

    private static void way() {
        s.of(18, "How many places a WAY has; -2: the PART isn't EXACT; -3: there is none; NONE: no such PART.");
        SlopeChecker x = s.stepped(RING, 48);
        s.due("way(0)", x.way(0), 1);
        s.due("way(47)", x.way(47), 48);
        s.due("PART 48 isn't EXACT", x.part(48, 4), 0);
        s.due("way(48)", x.way(48), -2);
        s.due("way(49)", x.way(49), -1);
        s.due("way(-1)", x.way(-1), -1);
        for (int far : FAR) {
            s.due("way(" + far + ")", x.way(far), -1);
        }
        s.due("to one that is GONE, but EXACT", s.stepped(COUNTER, 8).way(7), 8);
        s.due("there is none", s.stepped(OUT_3002, 1).way(1), -3);
        s.due("there is one to PART 0", s.stepped(OUT_3002, 1).way(0), 1);
        s.due("no PART", s.told("mode a 0 0;").way(0), -1);

        s.of(18, "A WAY to an EXACT PART: it and what it came from, back to PART 0; places 0 (PART 0) on.");
        for (int i = 0; i < 48; i++) {
            s.due("PART at place " + i, x.onWay(47, i, 0), i);
        }
        s.due("behind the last", x.onWay(47, 48, 0), NO_INT);
        SlopeChecker two = s.stepped("mode a 0 0;mode b 0 0;start a 0 0 0 0;edge a b;add x 1;edge a b;add x 2;edge b a;add y 1;", 3);
        s.due("places of PART 4", two.way(4), 3);
        s.due("its first", two.onWay(4, 0, 0), 0);
        s.due("its second", two.onWay(4, 1, 0), 2);
        s.due("its third", two.onWay(4, 2, 0), 4);
    }

    /** Whether there is a WAY to PART 1, and what its cells hold at the border. */
    private static void wayTo1(String text, int place, int what, int want) {
        SlopeChecker x = s.stepped(text, 1);
        s.due("EXACT: " + text, x.part(1, 4), 1);
        s.due("way(1) of " + text, x.way(1), 2);
        s.due("onWay(1, " + place + ", " + what + ") of " + text, x.onWay(1, place, what), want);
    }

    private static void noWayTo1(String text) {
        SlopeChecker x = s.stepped(text, 1);
        s.due("EXACT: " + text, x.part(1, 4), 1);
        s.due("way(1) of " + text, x.way(1), -3);
        s.due("onWay(1, 0, 0) of " + text, x.onWay(1, 0, 0), NO_INT);
        s.due("wayTime(1, 0) of " + text, x.wayTime(1, 0), -3);
    }

    private static void wayBeyond() {
        s.of(18, "If a part of a point or a TIME of these is BEYOND, there is none.");
        // x and y of OUT
        wayTo1("mode a -4 9;keep a -7 8 27;mode b 7 2;start a -18 -18 -29 -29;edge a b;when 7 -8 -27;harm b -4 -1 -26;", 1, 6, 3000);
        wayTo1("mode a -3 -7;keep a -4 -9 -6;mode b -4 -3;start a 4 4 3 3;edge a b;when 4 9 6;harm b -7 -4 -8;", 1, 8, 3000);
        noWayTo1(OUT_3002);
        noWayTo1("mode a 4 5;keep a 9 8 19;mode b 1 9;start a 1 1 -25 -25;edge a b;when -9 -8 -19;harm b -7 -8 -23;");
        // TIME alone
        wayTo1("mode a -4 -9;keep a -3 -7 -13;mode b 8 0;start a -2 -2 24 24;edge a b;when 3 7 13;harm b -5 -2 -9;", 1, 10, 3000);
        noWayTo1("mode a 5 -2;keep a 4 -9 23;mode b -5 6;start a 12 12 18 18;edge a b;when -4 9 -23;harm b -5 9 20;");
        // x of IN alone, y of IN alone
        String wide = "start a -999 999 -999 999;";
        wayTo1("mode a 0 0;mode b -9 4;edge a b;when -4 1 8;harm b -9 2 21;harm b -6 -7 37;" + wide, 1, 2, 3000);
        noWayTo1("mode a 0 0;mode b -8 3;edge a b;when -8 5 -24;harm b -8 5 12;harm b -6 -1 -35;" + wide);
        wayTo1("mode a 0 0;mode b -8 7;edge a b;when -1 6 2;harm b 1 -9 -29;harm b -7 3 30;" + wide, 1, 4, 3000);
        noWayTo1("mode a 0 0;mode b 3 -8;edge a b;when 5 -8 -21;harm b -7 -6 -19;harm b 3 8 -30;" + wide);
        // y of OUT of the place ahead: none from 3001 to 3007 below can come about here
        wayTo1("mode a 0 0;mode b -3 -5;edge a b;when 1 -8 17;put y 4;harm b -8 -1 -24;harm b -3 9 -2;" + wide, 0, 8, 3000);
        noWayTo1("mode a 0 0;mode b -5 8;edge a b;when -9 -8 15;put y -3;harm b -9 -2 27;harm b 8 7 4;" + wide);
        // what is above of a TIME; that of a point can't be too much, as it lies within 1000
        SlopeChecker told = s.stepped(UP + "start a 0 0 760 760;", 60);
        int p = told.check(2);
        s.due("places", told.way(p), 5);
        s.due("3000000 above", told.onWay(p, 4, 9), 3000000);
        s.due("2401 below", told.onWay(p, 4, 10), 2401);
        SlopeChecker none = s.stepped(UP + "start a 0 0 759 759;", 60);
        s.due("the same PART", none.check(2), p);
        s.due("3000001 above", none.way(p), -3);
    }

    private static void cells(SlopeChecker x, int p, int i, int[] want) {
        for (int what = 0; what < want.length; what++) {
            s.due("onWay(" + p + ", " + i + ", " + what + ")", x.onWay(p, i, what), want[what]);
        }
    }

    private static void places() {
        s.of(19, "OUT of the last: of its SET (CUT by its HARM, if it is HARMED) the point of the least x, of these of the least y.");
        String box = "mode a 0 0;start a -1 5 -2 3;";
        cells(s.told(box), 0, 0, new int[] {0, -1, 1, -2, 1, -1, 1, -2, 1, 0, 1});
        cells(s.told(box + "harm a -1 0 -5;"), 0, 0, new int[] {0, 5, 1, -2, 1, 5, 1, -2, 1, 0, 1});
        cells(s.told(box + "harm a -1 0 -6;"), 0, 0, new int[] {0, -1, 1, -2, 1, -1, 1, -2, 1, 0, 1});
        cells(s.told(box + "harm a -1 -1 -1;"), 0, 0, new int[] {0, -1, 1, 2, 1, -1, 1, 2, 1, 0, 1});
        cells(s.told(box + "harm a -2 -3 -9;"), 0, 0, new int[] {0, 0, 1, 3, 1, 0, 1, 3, 1, 0, 1});

        s.of(19, "IN: the first one back from OUT (the least TIME) that is in ENTRY.");
        String right = "mode a 1 0;start a 0 2 0 0;harm a -1 0 ";
        cells(s.told(right + "-2;"), 0, 0, new int[] {0, 2, 1, 0, 1, 2, 1, 0, 1, 0, 1});
        cells(s.told("mode a 1 0;start a 0 2 0 0;harm a -9 0 -19;"), 0, 0, new int[] {0, 2, 1, 0, 1, 19, 9, 0, 1, 1, 9});
        cells(s.told(right + "-3;"), 0, 0, new int[] {0, 2, 1, 0, 1, 3, 1, 0, 1, 1, 1});
        cells(s.told(right + "-1;"), 0, 0, new int[] {0, 1, 1, 0, 1, 1, 1, 0, 1, 0, 1});
        cells(s.told("mode a -2 0;start a 0 2 0 0;"), 0, 0, new int[] {0, 0, 1, 0, 1, -1000, 1, 0, 1, 500, 1});

        s.of(19, "OUT of the one ahead: of those points of its SET that hold the GUARD, and by which, put and added to, IN comes, "
            + "the one of the least x, then of the least y");
        String ahead = "mode a 0 0;mode b 0 0;start a -1 5 -2 3;edge a b;";
        cells(s.stepped(ahead + "put x 9;put y 9;", 1), 1, 0, new int[] {0, -1, 1, -2, 1, -1, 1, -2, 1, 0, 1});
        cells(s.stepped(ahead + "put x 9;put y 9;when -1 0 -5;", 1), 1, 0, new int[] {0, 5, 1, -2, 1, 5, 1, -2, 1, 0, 1});
        cells(s.stepped(ahead + "put x 9;", 1), 1, 0, new int[] {0, -1, 1, -2, 1, -1, 1, -2, 1, 0, 1});
        cells(s.stepped(ahead + "put x 9;add y 1;when -2 0 -3;", 1), 1, 0, new int[] {0, 3, 2, -2, 1, 3, 2, -2, 1, 0, 1});
        cells(s.stepped(ahead + "put y 9;add x 1;when 0 -2 -3;", 1), 1, 0, new int[] {0, -1, 1, 3, 2, -1, 1, 3, 2, 0, 1});
        cells(s.stepped(ahead + "add x 1;add y -1;", 1), 1, 0, new int[] {0, -1, 1, -2, 1, -1, 1, -2, 1, 0, 1});
        cells(s.stepped(ahead + "add x 1;add y -1;", 1), 1, 1, new int[] {1, 0, 1, -3, 1, 0, 1, -3, 1, 0, 1});
        // by the last of ten EDGES, whose numbers are its own
        SlopeChecker last = s.stepped(TEN + "add x 7;add y -6;", 1);
        cells(last, 1, 0, new int[] {0, 1, 1, 3, 1, 1, 1, 3, 1, 0, 1});
        cells(last, 1, 1, new int[] {1, 8, 1, -3, 1, 8, 1, -3, 1, 0, 1});
        last = s.stepped(TEN + "put x 7;add y -6;", 1);
        cells(last, 1, 0, new int[] {0, 1, 1, 3, 1, 1, 1, 3, 1, 0, 1});
        cells(last, 1, 1, new int[] {1, 7, 1, -3, 1, 7, 1, -3, 1, 0, 1});
        last = s.stepped(TEN + "add x 7;put y -6;when 0 -1 -4;", 1);
        cells(last, 1, 0, new int[] {0, 1, 1, 4, 1, 1, 1, 4, 1, 0, 1});
        cells(last, 1, 1, new int[] {1, 8, 1, -6, 1, 8, 1, -6, 1, 0, 1});
    }

    private static void onWay() {
        s.of(19, "At each: IN, a point of its ENTRY; OUT, a point of its SET; TIME, by which its SLOPES lead from IN to OUT.");
        SlopeChecker led = s.stepped("mode a 2 3;keep a 5 0 9;mode b -3 1;start a 0 0 1 1;edge a b;when -5 0 -6;add y 1;harm b 1 0 0;"
            + "harm b 0 2 9;", 1);
        cells(led, 1, 0, new int[] {0, 0, 1, 1, 1, 6, 5, 14, 5, 3, 5});
        cells(led, 1, 1, new int[] {1, 6, 5, 19, 5, -9, 10, 9, 2, 7, 10});
        for (int place = 0; place < 2; place++) {
            s.due("IN of place " + place + " is in ENTRY", hasCell(led, place, 0, 1), 1);
            s.due("OUT of place " + place + " is in SET", hasCell(led, place, 1, 5), 1);
            s.due("OUT of place " + place + " isn't in ENTRY", hasCell(led, place, 0, 5), 0);
        }

        s.of(19, "Of place i of a WAY, what 0 its PART, 1, 2 x of IN above, below, 3, 4 y of IN, 5, 6 x of OUT, 7, 8 y of OUT, "
            + "9, 10 TIME");
        // eleven numbers that are all others
        SlopeChecker eleven = s.stepped("mode a 0 0;mode b 9 8;start a 0 9 0 9;edge a b;when 6 2 19;harm b -3 2 -26;harm b 0 -2 -69;", 1);
        cells(eleven, 1, 1, new int[] {1, 17, 21, 99, 14, 95, 3, 69, 2, 24, 7});
        cells(led, 1, 1, new int[] {1, 6, 5, 19, 5, -9, 10, 9, 2, 7, 10});

        s.of(19, "Integer.MIN_VALUE: no such ones, no WAY.");
        SlopeChecker x = s.stepped(BOUNCE, 60);
        s.due("onWay(1, -1, 0)", x.onWay(1, -1, 0), NO_INT);
        s.due("onWay(1, 0, 0)", x.onWay(1, 0, 0), 0);
        s.due("onWay(1, 1, 0)", x.onWay(1, 1, 0), 1);
        s.due("onWay(1, 2, 0)", x.onWay(1, 2, 0), NO_INT);
        s.due("onWay(1, 1, -1)", x.onWay(1, 1, -1), NO_INT);
        s.due("onWay(1, 1, 10)", x.onWay(1, 1, 10), 1);
        s.due("onWay(1, 1, 11)", x.onWay(1, 1, 11), NO_INT);
        s.due("onWay(-1, 0, 0)", x.onWay(-1, 0, 0), NO_INT);
        s.due("onWay(2, 0, 0)", x.onWay(2, 0, 0), 0);
        s.due("onWay(3, 0, 0)", x.onWay(3, 0, 0), NO_INT);
        s.due("of one that isn't EXACT", s.stepped(COUNTER, 8).onWay(8, 0, 0), NO_INT);
        s.due("of one that is", s.stepped(COUNTER, 8).onWay(7, 0, 0), 0);
        s.due("no WAY", s.stepped(OUT_3002, 1).onWay(1, 0, 0), NO_INT);
        s.due("a WAY", s.stepped(OUT_3002, 1).onWay(0, 0, 0), 0);
        for (int far : FAR) {
            s.due("onWay(" + far + ", 0, 0)", x.onWay(far, 0, 0), NO_INT);
            s.due("onWay(1, " + far + ", 0)", x.onWay(1, far, 0), NO_INT);
            s.due("onWay(1, 0, " + far + ")", x.onWay(1, 0, far), NO_INT);
        }
    }

    /** Whether a point of the WAY to PART 1, all of whose parts are by 30, is in the PART of its place. */
    private static int hasCell(SlopeChecker x, int place, int which, int what) {
        int atX = 30 / x.onWay(1, place, what + 1) * x.onWay(1, place, what);
        int atY = 30 / x.onWay(1, place, what + 3) * x.onWay(1, place, what + 2);
        return x.has(x.onWay(1, place, 0), which, atX, atY, 30);
    }

    /** What is below of the TIMES together, as far as a place, without an end to what can be told. */
    private static long together(SlopeChecker x, int p, int last) {
        BigInteger above = BigInteger.ZERO;
        BigInteger below = BigInteger.ONE;
        for (int i = 0; i <= last; i++) {
            BigInteger d = BigInteger.valueOf(x.onWay(p, i, 10));
            above = above.multiply(d).add(BigInteger.valueOf(x.onWay(p, i, 9)).multiply(below));
            below = below.multiply(d);
            BigInteger shared = above.gcd(below);
            above = above.divide(shared);
            below = below.divide(shared);
        }
        return below.longValueExact();
    }

    private static void wayTime() {
        // what is above can't come above 1000000000000000 ahead of what is below: 60 TIMES are 120000 at most
        s.of(20, "-3: there is none, or as they are added, place by place, what is above comes above 1000000000000000, "
            + "what is below above 1000000000");
        SlopeChecker told = s.stepped(SUM_TOLD[0] + SUM_TOLD[1], 60);
        s.due("what is below, told", together(told, 4, 4), 999999840);
        s.due("wayTime(4, 1)", told.wayTime(4, 1), 999999840);
        s.due("wayTime(4, 0)", told.wayTime(4, 0), 3478723181L);
        SlopeChecker fine = s.stepped(SUM_TOO_FINE[0] + SUM_TOO_FINE[1], 60);
        s.due("there is a WAY", fine.way(4), 5);
        s.due("what is below, not told", together(fine, 4, 4), 1000003810);
        s.due("wayTime(4, 0), too fine", fine.wayTime(4, 0), -3);
        s.due("wayTime(4, 1), too fine", fine.wayTime(4, 1), -3);
        SlopeChecker less = s.stepped(SUM_TOLD[0] + SUM_TOLD[2], 60);
        s.due("wayTime(5, 1), less again", less.wayTime(5, 1), 8130080);
        SlopeChecker between = s.stepped(SUM_TOO_FINE[0] + SUM_TOO_FINE[2], 60);
        s.due("less again", together(between, 5, 5) < 1000000000 ? 1 : 0, 1);
        s.due("but too fine between", together(between, 5, 4), 1000003810);
        s.due("wayTime(5, 1), too fine between", between.wayTime(5, 1), -3);
        s.due("there is none", s.stepped(OUT_3002, 1).wayTime(1, 0), -3);

        s.of(20, "-2: the PART isn't EXACT");
        SlopeChecker joined = s.stepped(COUNTER, 8);
        s.due("wayTime(8, 0)", joined.wayTime(8, 0), -2);
        s.due("wayTime(8, 1)", joined.wayTime(8, 1), -2);
        s.due("wayTime(7, 1)", joined.wayTime(7, 1), 1);

        s.of(20, "TIMES of a WAY together, what 0 above, 1 below (as longs)");
        SlopeChecker thirds = s.stepped("mode a 3 0;mode b 0 7;start a 0 0 0 0;edge a b;when -1 0 -2;harm b 0 -1 -5;", 1);
        s.due("2/3", thirds.onWay(1, 0, 10), 3);
        s.due("5/7", thirds.onWay(1, 1, 10), 7);
        s.due("29/21, above", thirds.wayTime(1, 0), 29);
        s.due("29/21, below", thirds.wayTime(1, 1), 21);
        SlopeChecker x = s.stepped(BOUNCE, 60);
        s.due("wayTime(0, 0)", x.wayTime(0, 0), 0);
        s.due("wayTime(0, 1)", x.wayTime(0, 1), 1);
        s.due("wayTime(1, 0)", x.wayTime(1, 0), 10);
        s.due("more than an int", told.wayTime(4, 0) > Integer.MAX_VALUE ? 1 : 0, 1);

        s.of(20, "NONE: no such ones.");
        s.due("wayTime(0, -1)", x.wayTime(0, -1), -1);
        s.due("wayTime(0, 2)", x.wayTime(0, 2), -1);
        s.due("wayTime(-1, 0)", x.wayTime(-1, 0), -1);
        s.due("wayTime(2, 1)", x.wayTime(2, 1), 1);
        s.due("wayTime(3, 0)", x.wayTime(3, 0), -1);
        s.due("not EXACT, what 2", joined.wayTime(8, 2), -1);
        s.due("too fine, what 2", fine.wayTime(4, 2), -1);
        for (int far : FAR) {
            s.due("wayTime(" + far + ", 0)", x.wayTime(far, 0), -1);
            s.due("wayTime(0, " + far + ")", x.wayTime(0, far), -1);
        }
    }

    private static void beginsOrNot() {
        s.of(21, "A RIDE from a point in a MODE, that it keeps, within -1000 .. 1000");
        SlopeChecker x = s.told("mode a 0 0;keep a 1 0 10;keep a -2 -3 12;mode b 0 0;");
        s.due("kept at its side", x.ride(0, 10, 0, 1, 1), 0);
        s.due("a thirtieth off", x.ride(0, 301, 0, 30, 1), -2);
        s.due("kept at its other side", x.ride(0, 0, -4, 1, 1), 0);
        s.due("a thirtieth off that", x.ride(0, 0, -121, 30, 1), -2);
        int[][] ways = {{1, 0}, {-1, 0}, {0, 1}, {0, -1}};
        for (int[] w : ways) {
            s.due("1000 along " + w[0] + " " + w[1], x.ride(1, 1000 * w[0], 1000 * w[1], 1, 1), 0);
            s.due("1000 by 30 along " + w[0] + " " + w[1], x.ride(1, 30000 * w[0], 30000 * w[1], 30, 1), 0);
            s.due("1001 along " + w[0] + " " + w[1], x.ride(1, 1001 * w[0], 1001 * w[1], 1, 1), -2);
            s.due("a bit above 1000 along " + w[0] + " " + w[1], x.ride(1, 29001 * w[0], 29001 * w[1], 29, 1), -2);
        }

        s.of(21, "-2: it can't begin there; NONE: no such ones.");
        s.due("MODE -1", x.ride(-1, 0, 0, 1, 1), -1);
        s.due("MODE 1", x.ride(1, 0, 0, 1, 1), 0);
        s.due("MODE 2", x.ride(2, 0, 0, 1, 1), -1);
        s.due("x 30000", x.ride(0, 30000, 0, 30, 1), -2);
        s.due("x 30001", x.ride(0, 30001, 0, 30, 1), -1);
        s.due("x -30000", x.ride(0, -30000, 0, 30, 1), -2);
        s.due("x -30001", x.ride(0, -30001, 0, 30, 1), -1);
        s.due("y 30000", x.ride(0, 0, 30000, 30, 1), 0);
        s.due("y 30001", x.ride(0, 0, 30001, 30, 1), -1);
        s.due("y -30000", x.ride(0, 0, -30000, 30, 1), -2);
        s.due("y -30001", x.ride(0, 0, -30001, 30, 1), -1);
        s.due("by 0", x.ride(0, 0, 0, 0, 1), -1);
        s.due("by 30", x.ride(0, 0, 0, 30, 1), 0);
        s.due("by 31", x.ride(0, 0, 0, 31, 1), -1);
        s.due("not kept, and n 0", x.ride(0, 11, 0, 1, 0), -1);
        s.due("not kept, and n 1", x.ride(0, 11, 0, 1, 1), -2);
        for (int far : FAR) {
            s.due("MODE " + far, x.ride(far, 0, 0, 1, 1), -1);
            s.due("x " + far, x.ride(0, far, 0, 1, 1), -1);
            s.due("y " + far, x.ride(0, 0, far, 1, 1), -1);
            s.due("by " + far, x.ride(0, 0, 0, far, 1), -1);
            s.due("n " + far, x.ride(0, 0, 0, 1, far), -1);
        }
    }

    private static void ride() {
        s.of(21, "A RIDE from a point (as of has()) in a MODE, n 1 .. 30: how often it JUMPED (it is told by ridden())");
        SlopeChecker x = s.told("mode a 0 0;edge a a;");
        s.due("n 0", x.ride(0, 0, 0, 1, 0), -1);
        s.due("n 1", x.ride(0, 0, 0, 1, 1), 1);
        s.due("n 30", x.ride(0, 0, 0, 1, 30), 30);
        s.due("n 31", x.ride(0, 0, 0, 1, 31), -1);
        s.due("n -1", x.ride(0, 0, 0, 1, -1), -1);
        SlopeChecker five = s.told("mode a 0 0;edge a a;add x 1;when 1 0 4;");
        s.due("five can be done", five.ride(0, 0, 0, 1, 30), 5);
        s.due("of five four", five.ride(0, 0, 0, 1, 4), 4);
        s.due("of five five", five.ride(0, 0, 0, 1, 5), 5);
        s.due("of five six", five.ride(0, 0, 0, 1, 6), 5);
        s.due("none", five.ride(0, 5, 0, 1, 30), 0);
    }

    private static void time(String what, SlopeChecker x, int above, int below) {
        s.due(what + ": JUMPS", x.ridden(1, 0) == NO_INT ? 0 : 1, 1);
        s.due(what + ": time", x.ridden(1, 6), above);
        s.due(what + ": time below", x.ridden(1, 7), below);
    }

    private static void firstEdge() {
        s.of(21, "again and again the EDGE that can be taken first (after the least time of 0 or more; of several the least number)");
        SlopeChecker x = s.told("mode a 1 0;mode b 0 0;edge a b;when -1 0 -5;when 1 0 6;");
        x.ride(0, 5, 0, 1, 1);
        time("at its first point", x, 0, 1);
        x.ride(0, 149, 0, 30, 1);
        time("a thirtieth ahead", x, 1, 30);
        x.ride(0, 6, 0, 1, 1);
        time("at its last point", x, 0, 1);
        s.due("a thirtieth behind", x.ride(0, 181, 0, 30, 1), 0);
        String two = "mode a 1 0;mode b 0 0;edge a b;when -1 0 -5;edge a b;when ";
        int[] edges = {0, 0, 1};
        String[] guards = {"-1 0 -6;", "-1 0 -5;", "-9 0 -44;"};
        for (int i = 0; i < 3; i++) {
            SlopeChecker y = s.told(two + guards[i]);
            y.ride(0, 0, 0, 1, 1);
            s.due("EDGE of 5 and " + guards[i], y.ridden(1, 5), edges[i]);
        }
        SlopeChecker now = s.told(two + "-1 0 -4;");
        now.ride(0, 5, 0, 1, 1);
        s.due("both at once", now.ridden(1, 5), 0);
        now.ride(0, 14, 0, 3, 1);
        s.due("the second at once", now.ridden(1, 5), 1);
    }

    private static void jumpsOrNot() {
        s.of(21, "the point then holds its GUARD, the MODE keeps all up to it (within -1000 .. 1000), what it is, put and added to, "
            + "is kept by the MODE to which it leads (and within)");
        String kept = "mode a 1 0;keep a 1 0 5;mode b 0 0;edge a b;when -1 0 ";
        s.due("kept up to it", s.told(kept + "-5;").ride(0, 0, 0, 1, 1), 1);
        s.due("not kept up to it", s.told(kept + "-6;").ride(0, 0, 0, 1, 1), 0);
        s.due("nor by a ninth", s.told("mode a 1 0;keep a 1 0 5;edge a a;when -9 0 -46;").ride(0, 0, 0, 1, 1), 0);
        String still = "mode a 0 0;edge a a;when 1 0 ";
        s.due("no slopes, it holds", s.told(still + "5;").ride(0, 5, 0, 1, 1), 1);
        s.due("no slopes, it doesn't", s.told(still + "4;").ride(0, 5, 0, 1, 1), 0);
        s.due("within up to 1000", s.told("mode a 1 1;edge a a;when -1 0 -998;").ride(0, 0, 2, 1, 1), 1);
        s.due("not within up to it", s.told("mode a 1 1;edge a a;when -1 0 -999;").ride(0, 0, 2, 1, 1), 0);
        String led = "mode a 0 0;mode b 0 0;keep b 2 3 12;edge a b;";
        s.due("kept there", s.told(led + "put x 3;").ride(0, 0, 2, 1, 1), 1);
        s.due("not kept there", s.told(led + "put x 4;").ride(0, 0, 2, 1, 1), 0);
        s.due("kept there, added", s.told(led + "add x 1;add y -1;").ride(0, 2, 3, 1, 1), 1);
        s.due("not kept there, added", s.told(led + "add x 1;add y -1;").ride(0, 61, 90, 30, 1), 0);
        String[] adds = {"x 1", "x -1", "y 1", "y -1"};
        int[][] ways = {{1, 0}, {-1, 0}, {0, 1}, {0, -1}};
        for (int k = 0; k < 4; k++) {
            SlopeChecker x = s.told("mode a 0 0;edge a a;add " + adds[k] + ";");
            s.due("up to 1000 by " + adds[k], x.ride(0, 999 * ways[k][0], 999 * ways[k][1], 1, 2), 1);
            s.due("not beyond 1000 by " + adds[k], x.ride(0, 1000 * ways[k][0], 1000 * ways[k][1], 1, 2), 0);
            s.due("not beyond 1000 by a bit", x.ride(0, 28972 * ways[k][0], 28972 * ways[k][1], 29, 1), 0);
        }
        alongTheSides();
        keptThere();
        SlopeChecker leave = s.told("mode a -1 0;mode b 0 0;edge a b;add x 500;");
        leave.ride(0, 1000, 0, 1, 1);
        time("it waits until it is within", leave, 500, 1);
        leave.ride(0, 500, 0, 1, 1);
        time("it is within at once", leave, 0, 1);
    }

    /** At x or y 1000 or -1000 it is within, all the way from one corner to the next. */
    private static void alongTheSides() {
        int[] ends = {-1000, 1000};
        for (int end : ends) {
            for (int sign = -1; sign <= 1; sign += 2) {
                SlopeChecker up = s.told("mode a 0 " + sign + ";edge a a;when 0 " + -sign + " -999;add y " + -sign + ";");
                s.due("along x " + end + " by " + sign, up.ride(0, end, -1000 * sign, 1, 3), 3);
                s.due("its first time", up.ridden(1, 6), 1999);
                SlopeChecker right = s.told("mode a " + sign + " 0;edge a a;when " + -sign + " 0 -999;add x " + -sign + ";");
                s.due("along y " + end + " by " + sign, right.ride(0, -1000 * sign, end, 1, 3), 3);
                s.due("its first time", right.ridden(1, 6), 1999);
            }
        }
    }

    /** What is put is kept there, or not, whatever the SLOPES are; the other size goes on. */
    private static void keptThere() {
        for (int sign = -1; sign <= 1; sign += 2) {
            for (int other = -1; other <= 1; other += 2) {
                String x = "mode a 1 " + other + ";mode b 0 0;keep b " + sign + " 0 5;edge a b;when -3 0 -7;put x ";
                jumpTo(x + 5 * sign + ";", 1, 7, 3);
                jumpTo(x + 6 * sign + ";", 0, 0, 0);
                String y = "mode a " + other + " 1;mode b 0 0;keep b 0 " + sign + " 5;edge a b;when 0 -3 -7;put y ";
                jumpTo(y + 5 * sign + ";", 1, 7, 3);
                jumpTo(y + 6 * sign + ";", 0, 0, 0);
            }
        }
        // of several BOUNDS the one that ends first, and the GUARD that begins last, in either order
        String[] ends = {"keep a 3 0 10;keep a 2 0 7;", "keep a 2 0 7;keep a 3 0 10;"};
        for (String end : ends) {
            jumpTo("mode a 1 0;" + end + "edge a a;when -3 0 -10;put x 0;", 1, 10, 3);
            jumpTo("mode a 1 0;" + end + "edge a a;when -9 0 -31;put x 0;", 0, 0, 0);
            jumpTo("mode a 1 0;" + end + "edge a a;when -9 0 -29;when -5 0 -16;when -4 0 -9;when -1 0 0;put x 0;", 1, 29, 9);
            jumpTo("mode a 1 0;" + end + "edge a a;when -5 0 -16;when -9 0 -29;when -4 0 -9;when -1 0 0;put x 0;", 1, 29, 9);
        }
        SlopeChecker last = s.told(TEN + "put x 5;put y -7;");
        last.ride(0, 1, 1, 1, 1);
        int[] cells = {1, 5, 1, -7, 1, 9};
        for (int what = 0; what < cells.length; what++) {
            s.due("by the last of ten EDGES, " + what, last.ridden(1, what), cells[what]);
        }
        last = s.told(TEN + "add x 999;add y -1;");
        s.due("by the last of ten EDGES, within", last.ride(0, 1, -999, 1, 1), 1);
        s.due("by the last of ten EDGES, not within", last.ride(0, 2, -999, 1, 1), 0);
        s.due("by the last of ten EDGES, nor so", last.ride(0, 1, -1000, 1, 1), 0);
    }

    /** From 0, 0: whether it JUMPS, and after which time. */
    private static void jumpTo(String text, int jumps, int above, int below) {
        SlopeChecker x = s.told(text);
        s.due("JUMPS of " + text, x.ride(0, 0, 0, 1, 1), jumps);
        if (jumps > 0) {
            time(text, x, above, below);
        }
    }

    private static void ridden() {
        s.of(22, "Of the RIDE told last, behind its j-th JUMP (0: as it began), what 0 MODE, 1, 2 x above, below, 3, 4 y, 5 the EDGE of the JUMP (-2 of 0), "
            + "6, 7 the time that went by ahead of it");
        SlopeChecker x = s.told(BOUNCE);
        x.ride(0, 3, -9, 2, 2);
        int[][] want = {{0, 3, 2, -9, 2, -2, 0, 1}, {1, 4, 1, -9, 2, 0, 5, 2}, {0, 0, 1, 6, 1, 1, 21, 2}};
        for (int j = 0; j < 3; j++) {
            for (int what = 0; what < 8; what++) {
                s.due("ridden(" + j + ", " + what + ")", x.ridden(j, what), want[j][what]);
            }
        }
        x.ride(0, 4, 12, 2, 1);
        s.due("in lowest terms", x.ridden(0, 1), 2);
        s.due("in lowest terms, below", x.ridden(0, 2), 1);
        s.due("no time ahead of a new one", x.ridden(0, 6), 0);
        s.due("no time ahead of a new one, below", x.ridden(0, 7), 1);

        s.of(22, "Integer.MIN_VALUE: none was told, no such ones.");
        SlopeChecker none = s.told("mode a 0 0;edge a a;keep a 1 0 5;");
        s.due("none was told", none.ridden(0, 0), NO_INT);
        none.ride(0, 6, 0, 1, 30);
        s.due("it can't begin", none.ridden(0, 0), NO_INT);
        none.ride(0, 0, 0, 1, 31);
        s.due("no such n", none.ridden(0, 0), NO_INT);
        none.ride(0, 5, 0, 1, 30);
        s.due("told", none.ridden(0, 0), 0);
        s.due("ridden(30, 0)", none.ridden(30, 0), 0);
        s.due("ridden(31, 0)", none.ridden(31, 0), NO_INT);
        s.due("ridden(-1, 0)", none.ridden(-1, 0), NO_INT);
        s.due("ridden(30, -1)", none.ridden(30, -1), NO_INT);
        s.due("ridden(30, 7)", none.ridden(30, 7), 1);
        s.due("ridden(30, 8)", none.ridden(30, 8), NO_INT);
        for (int far : FAR) {
            s.due("ridden(" + far + ", 0)", none.ridden(far, 0), NO_INT);
            s.due("ridden(0, " + far + ")", none.ridden(0, far), NO_INT);
        }
        none.ride(0, 6, 0, 1, 30);
        s.due("the RIDE told last stays, if one can't begin", none.ridden(30, 0), 0);
        none.ride(0, 0, 0, 1, 2);
        s.due("a shorter one, its last", none.ridden(2, 0), 0);
        s.due("a shorter one, behind its last", none.ridden(3, 0), NO_INT);
    }

    private static void ended() {
        s.of(23, "It ENDS: 3 it has JUMPED n times (asked first); 1 none can ever be taken");
        SlopeChecker x = s.told("mode a 0 0;edge a a;add x 1;when 1 0 4;");
        x.ride(0, 0, 0, 1, 4);
        s.due("4 of 5", x.ended(), 3);
        x.ride(0, 0, 0, 1, 5);
        s.due("5 of 5, none more can be taken", x.ended(), 3);
        x.ride(0, 0, 0, 1, 6);
        s.due("6 of 5", x.ended(), 1);
        x.ride(0, 5, 0, 1, 1);
        s.due("none at all", x.ended(), 1);

        s.of(23, "Why the RIDE told last ENDS (1, 2, 3)");
        SlopeChecker all = s.told(UP);
        all.ride(0, 0, 760, 1, 30);
        s.due("none can ever be taken", all.ended(), 1);
        all.ride(0, 0, 759, 1, 30);
        s.due("BEYOND", all.ended(), 2);
        all.ride(0, 0, 759, 1, 4);
        s.due("JUMPED 4 times", all.ended(), 3);
        all.ride(0, 0, 760, 1, 30);
        s.due("none, once more", all.ended(), 1);

        s.of(23, "NONE: none was told.");
        SlopeChecker none = s.told("mode a 0 0;keep a 1 0 5;");
        s.due("none was told", none.ended(), -1);
        none.ride(0, 6, 0, 1, 1);
        s.due("it can't begin", none.ended(), -1);
        none.ride(0, 5, 0, 1, 0);
        s.due("no such n", none.ended(), -1);
        none.ride(0, 5, 0, 1, 1);
        s.due("told", none.ended(), 1);
        none.ride(0, 6, 0, 1, 1);
        s.due("it stays", none.ended(), 1);
    }

    private static void jumps(String text, int y, int want, int end) {
        SlopeChecker x = s.told(text);
        s.due("JUMPS of " + text, x.ride(0, 0, y, 1, 30), want);
        s.due("it ENDS: " + text, x.ended(), end);
        s.due("behind the last: " + text, x.ridden(want + 1, 0), NO_INT);
    }

    private static void endedBeyond() {
        s.of(23, "2 the time, or a part of the point behind the JUMP, would be BEYOND (that JUMP isn't done)");
        // the time by 3000, by 3002; what is put can't be BEYOND
        String put = "put x 0;put y 0;";
        jumps("mode a -1 9;mode b 5 0;mode c 0 0;edge a b;when 3 -8 -13;edge b c;when -8 7 -16;" + put, 0, 2, 1);
        jumps("mode a -7 -5;mode b -8 -1;mode c 0 0;edge a b;when 7 6 -13;edge b c;when 5 -2 -18;" + put, 0, 1, 2);
        // x, then y, by 3000 and by 3002
        jumps("mode a 5 -6;mode b -7 -2;mode c 0 0;edge a b;when -9 5 -4;edge b c;when 6 -1 -19;put y 0;", 0, 2, 1);
        jumps("mode a -7 9;mode b 5 -1;mode c 0 0;edge a b;when 1 -8 -19;edge b c;when -9 -7 -7;put y 0;", 0, 1, 2);
        jumps("mode a -3 -7;mode b -4 -3;mode c 0 0;edge a b;when 4 9 -1;edge b c;when 7 4 -18;put x 0;", 0, 2, 1);
        jumps("mode a -7 9;mode b 5 -1;mode c 0 0;edge a b;when 1 -8 -19;edge b c;when -9 -7 -7;put x 0;", 0, 1, 2);
        jumps("mode a -7 9;mode b 5 -1;mode c 0 0;edge a b;when 1 -8 -19;edge b c;when -9 -7 -7;" + put, 0, 2, 1);
        // what is above of the time: 3000000, 3000001
        jumps(UP, 760, 5, 1);
        jumps(UP, 759, 4, 2);
        SlopeChecker told = s.told(UP);
        told.ride(0, 0, 760, 1, 30);
        s.due("3000000 above", told.ridden(5, 6), 3000000);
        told.ride(0, 0, 759, 1, 4);
        s.due("n JUMPS, asked ahead of BEYOND", told.ended(), 3);
    }

    private static void followed() {
        s.of(24, "Of the RIDE told last, whether each point behind a JUMP lies in the SET of a PART of its MODE that isn't GONE (1, 0); NONE: none was told.");
        String text = "mode a 0 0;mode b 0 0;start a 0 5 0 0;edge a b;add x 1;edge b a;put x 0;when -1 0 -6;";
        SlopeChecker x = s.told(text);
        s.due("none was told", x.followed(), -1);
        x.ride(0, 6, 0, 1, 0);
        s.due("no such n", x.followed(), -1);
        x.ride(0, 5, 0, 1, 1);
        s.due("no PART of that MODE so far", x.followed(), 0);
        x.step(1);
        s.due("at the end of a PART", x.followed(), 1);
        x.ride(0, 151, 0, 30, 1);
        s.due("a thirtieth behind it", x.followed(), 0);
        x.ride(0, 6, 0, 1, 2);
        s.due("the first point isn't in one, the second is", x.followed(), 0);
        x.ride(0, 5, 0, 1, 2);
        s.due("both are", x.followed(), 1);
        x.ride(1, 9, 0, 1, 1);
        s.due("where it began isn't asked", x.followed(), 1);
        x.ride(1, 5, 9, 1, 1);
        s.due("no JUMP", x.followed(), 1);
        SlopeChecker square = s.stepped("mode a 0 0;mode b 0 0;start a 0 1 0 1;edge a b;", 1);
        square.ride(0, 30, 29, 30, 1);
        s.due("1 and 29/30", square.followed(), 1);
        square.ride(0, 30, 31, 30, 1);
        s.due("1 and 31/30", square.followed(), 0);
        square.ride(0, -1, 15, 30, 1);
        s.due("-1/30 and 1/2", square.followed(), 0);
        String up = "mode a 0 3;mode b 0 0;keep b 0 1 1;start a 0 0 0 0;edge a b;when 0 -7 ";
        SlopeChecker sevenths = s.stepped(up + "-5;", 1);
        sevenths.ride(0, 0, 0, 1, 1);
        s.due("up to 5/7", sevenths.followed(), 1);
        sevenths.ride(0, 1, 0, 30, 1);
        s.due("1/30 to the right", sevenths.followed(), 0);
        SlopeChecker gone = s.stepped("mode a 0 0;start a 0 0 0 0;edge a a;add x 2;most 1;", 1);
        gone.ride(0, -2, 0, 1, 1);
        s.due("in PART 1, PART 0 is GONE", gone.followed(), 1);
        gone.ride(0, 1, 0, 1, 1);
        s.due("behind PART 1", gone.followed(), 0);
    }
}
