/** The borders that the promises 5 and 6 name, with what makes PARTS, STEPS and STOPS (==== 2.). */
public final class BoundaryStepTest {
    /** Each jump goes one to the right: PART k is the point k, from MOST on all from MOST - 1 to k. */
    private static final String COUNTER = "mode a 0 0;start a 0 0 0 0;edge a a;add x 1;";
    private static final int[] FAR = {Integer.MIN_VALUE, Integer.MIN_VALUE + 1, Integer.MAX_VALUE - 1, Integer.MAX_VALUE};

    // 3001 below can't come about: it is prime, and no two lines of BOUNDS and SLOPES bring a factor above 153.
    /** PART 1 ends in (x, -5957/750), x 25457/3000, where a line cuts it. */
    private static final String AT_3000 = "mode a -4 9;keep a -7 8 27;mode b 7 2;mode c 0 0;start a -18 -18 -29 -29;"
        + "edge a b;when 7 -8 -27;edge b c;";
    private static final String LINE_3000 = "4 1 26;";
    /** PART 1 is cut in (4774/1501, y), y -16657/3002. */
    private static final String AT_3002 = "mode a -7 -5;keep a -7 -6 -12;mode b -8 -1;mode c 0 0;start a 12 12 -1 -1;"
        + "edge a b;when 7 6 12;edge b c;";
    private static final String LINE_3002 = "-5 2 -27;";

    private static Sentences s;

    public static void main(String[] args) throws Exception {
        s = new Sentences(args);
        step();
        firstPart();
        firstIs();
        beyond();
        cutOnce();
        grown();
        takes();
        guardThenEntry();
        edgesTaken();
        lastEdge();
        movedBeyond();
        covered();
        most();
        exact();
        part61();
        whatStays();
        harm();
        safe();
        check();
        s.end(5, 6);
    }

    private static void step() {
        s.of(5, "n 1 .. 60 STEPS: how many were done");
        s.due("step(1)", s.told(COUNTER).step(1), 1);
        s.due("step(59)", s.told(COUNTER).step(59), 59);
        s.due("step(60)", s.told(COUNTER).step(60), 60);
        SlopeChecker one = s.told("mode a 1 0;start a 0 0 0 0;");
        s.due("step(60), one PART", one.step(60), 1);
        s.due("step(60), none OPEN", one.step(60), 0);
        s.due("step(1), no TEXT", new SlopeChecker().step(1), 0);

        s.of(5, "(the one in which it STOPS is one)");
        SlopeChecker full = s.told(COUNTER);
        s.due("step(59)", full.step(59), 59);
        s.due("why", full.check(3), 0);
        s.due("step(2)", full.step(2), 1);
        s.due("why, then", full.check(3), 2);
        s.due("step(1) behind a STOP", full.step(1), 0);
        s.due("STEPS so far", full.count(4), 60);
        SlopeChecker fine = s.told(AT_3002 + "when " + LINE_3002);
        s.due("step(60) up to BEYOND", fine.step(60), 2);
        s.due("step(60) behind BEYOND", fine.step(60), 0);

        s.of(5, "NONE: no such n.");
        SlopeChecker x = s.told(COUNTER);
        s.due("step(0)", x.step(0), -1);
        s.due("step(-1)", x.step(-1), -1);
        s.due("step(61)", x.step(61), -1);
        for (int n : FAR) {
            s.due("step(" + n + ")", x.step(n), -1);
        }
        s.due("no STEP was done", x.count(4), 0);
        s.due("step(1)", x.step(1), 1);
        s.due("step(60)", x.step(60), 59);
    }

    private static void firstPart() {
        s.of(5, "(none, if ENTRY is empty, or there is no start; is a LIMIT BEYOND, none, it STOPS)");
        String kept = "mode a 1 0;keep a 1 0 5;start a ";
        s.due("kept in one point", s.told(kept + "5 9 0 0;").count(3), 1);
        s.due("not kept", s.told(kept + "6 9 0 0;").count(3), 0);
        s.due("not kept: no STOP", s.told(kept + "6 9 0 0;").check(3), 0);
        String corner = "mode a 0 0;keep a 2 3 5;keep a -1 -1 ";
        s.due("kept in a corner", s.told(corner + "-2;start a 1 9 1 9;").count(3), 1);
        s.due("kept by no point", s.told(corner + "-3;start a 0 9 0 9;").count(3), 0);
        s.due("no start", s.told("mode a 1 0;").count(3), 0);
        s.due("no start: no STOP", s.told("mode a 1 0;").check(3), 0);
        first("mode a -8 1;keep a 7 -2 250;keep a -8 -3 768;harm a -8 9 0;start a -231 169 464 464;", 3000000);
        firstStops("mode a -4 -9;keep a 5 7 420;keep a -6 -7 367;harm a 7 -9 0;start a 443 496 -294 -294;");
        first("mode a -9 8;keep a 7 1 -14;keep a -5 4 627;harm a 7 9 0;start a -400 106 -755 -755;", -3000000);
        firstStops("mode a -1 -7;keep a 8 3 -855;keep a -5 -9 592;harm a 9 -8 0;start a -405 -373 712 712;");
    }

    private static void firstIs() {
        s.of(5, "The first one: MODE of start, ENTRY its points within what the MODE keeps, SET that GROWN, DEPTH 0, EXACT, OPEN");
        SlopeChecker x = s.told("mode a 0 0;mode b 1 0;keep b 2 0 9;keep b 0 -1 -1;start b 0 4 0 3;");
        int[] part = {1, -2, -2, 0, 1, 1, 0, 0, 4, 4};
        for (int what = 0; what < part.length; what++) {
            s.due("part(0, " + what + ")", x.part(0, what), part[what]);
        }
        int[] entry = {4, 0, 3, -1};
        int[] set = {9, 0, 3, -1};
        for (int k = 0; k < 4; k++) {
            s.due("ENTRY, LIMIT " + k, x.limit(0, 0, k, 0), entry[k]);
            s.due("SET, LIMIT " + k, x.limit(0, 1, k, 0), set[k]);
        }
        s.due("9/2", x.limit(0, 1, 0, 1), 2);
        s.due("ENTRY cut at 9/2", s.told("mode a 0 0;keep a 2 0 9;start a 0 5 0 0;").limit(0, 0, 0, 0), 9);
        s.due("ENTRY not cut at 5", s.told("mode a 0 0;keep a 2 0 10;start a 0 5 0 0;").limit(0, 0, 0, 0), 5);
    }

    /** One of its LIMITS has just that above. */
    private static void first(String text, int above) {
        SlopeChecker x = s.told(text);
        s.due("PARTS with " + above + " above", x.count(3), 1);
        s.due("why", x.check(3), 0);
        s.due("the LIMIT farthest from 0", above > 0 ? greatest(x, 0) : least(x, 0), above);
    }

    /** One of its LIMITS would have 3000001 or -3000001 above. */
    private static void firstStops(String text) {
        SlopeChecker x = s.told(text);
        s.due("no PART", x.count(3), 0);
        s.due("why", x.check(3), 1);
        s.due("step(1)", x.step(1), 0);
    }

    private static int greatest(SlopeChecker x, int p) {
        int most = Integer.MIN_VALUE;
        for (int k = 0; k < x.count(2); k++) {
            most = Math.max(most, x.limit(p, 1, k, 0));
        }
        return most;
    }

    private static int least(SlopeChecker x, int p) {
        int least = Integer.MAX_VALUE;
        for (int k = 0; k < x.count(2); k++) {
            least = Math.min(least, x.limit(p, 1, k, 0));
        }
        return least;
    }

    private static int finest(SlopeChecker x, int p) {
        int most = 0;
        for (int k = 0; k < x.count(2); k++) {
            most = Math.max(most, x.limit(p, 1, k, 1));
        }
        return most;
    }

    private static void beyond() {
        s.of(5, "A FRACTION is BEYOND, if it is above 3000000 or below -3000000 above, or above 3000 below.");
        SlopeChecker below = grownBy(true, "mode a -4 9;mode b 7 2;keep a -7 8 -25;keep b 4 1 -36;edge a b;when 7 -8 25;"
            + "start a 8 8 -50 -50;");
        s.due("3000 below", finest(below, 1), 3000);
        grownBy(false, "mode a -7 -5;mode b -8 -1;keep a -7 -6 -8;keep b -5 2 17;edge a b;when 7 6 8;start a 46 46 16 16;");
        SlopeChecker above = grownBy(true, "mode a -3 5;mode b -2 3;keep a -6 7 -966;keep b -5 1 800;edge a b;when 6 -7 966;"
            + "start a 614 614 -456 -456;");
        s.due("3000000 above", greatest(above, 1), 3000000);
        grownBy(false, "mode a 7 2;mode b 5 -8;keep a 1 6 -804;keep b 8 -5 715;edge a b;when -1 -6 804;"
            + "start a -704 -704 -226 -226;");
        SlopeChecker under = grownBy(true, "mode a -8 3;mode b -7 1;keep a -8 -5 -787;keep b -7 -6 -446;edge a b;when 8 5 787;"
            + "start a 894 894 -135 -135;");
        s.due("-3000000 above", least(under, 1), -3000000);
        grownBy(false, "mode a -8 1;mode b 3 5;keep a -7 5 914;keep b -4 7 -289;edge a b;when 7 -5 -914;"
            + "start a -194 -194 -544 -544;");

        s.of(5, "Is a TIGHT LIMIT BEYOND, behind a CUT or as GROWN");
        String put = "put x 0;put y 0;";
        cutBy(true, AT_3000 + "when " + LINE_3000 + put);
        cutBy(false, AT_3002 + "when " + LINE_3002 + put);
        SlopeChecker kept = cutBy(true, AT_3000 + "keep c " + LINE_3000);
        s.due("3000 below in the ENTRY", finest(kept, 2), 3000);
        cutBy(false, AT_3002 + "keep c " + LINE_3002);
        cutBy(true, AT_3002 + put);
    }

    private static SlopeChecker grownBy(boolean comes, String text) {
        SlopeChecker x = s.told(text);
        s.due("step(2) of " + text, x.step(2), comes ? 2 : 1);
        s.due("PARTS of " + text, x.count(3), comes ? 2 : 1);
        s.due("why of " + text, x.check(3), comes ? 0 : 1);
        return x;
    }

    private static SlopeChecker cutBy(boolean comes, String text) {
        SlopeChecker x = s.told(text);
        s.due("step(2) of " + text, x.step(2), 2);
        s.due("PARTS of " + text, x.count(3), comes ? 3 : 2);
        s.due("why of " + text, x.check(3), comes ? 0 : 1);
        return x;
    }

    private static void cutOnce() {
        s.of(5, "CUT by BOUNDS: only points that hold all (LIMITS TIGHT anew once, behind all).");
        String put = "put x 0;put y 0;";
        String four = "-1 0 -4;";
        cutBy(false, AT_3002 + "when " + LINE_3002 + put);
        cutBy(true, AT_3002 + "when " + LINE_3002 + "when " + four + put);
        cutBy(true, AT_3002 + "when " + four + "when " + LINE_3002 + put);
        cutBy(false, AT_3002 + "keep c " + LINE_3002);
        cutBy(true, AT_3002 + "keep c " + LINE_3002 + "keep c " + four);
        cutBy(true, AT_3002 + "keep c " + four + "keep c " + LINE_3002);
        String five = "mode a 0 0;start a 0 9 0 9;edge a a;put x -9;when 1 0 5;when -1 0 ";
        s.due("both hold at 5", s.stepped(five + "-5;", 1).count(3), 2);
        s.due("both hold nowhere", s.stepped(five + "-6;", 1).count(3), 1);
    }

    private static void grown() {
        s.of(5, "All SETS lie within x and y -1000 .. 1000.");
        int[][] ways = {{1, 0}, {-1, 0}, {0, 1}, {0, -1}};
        for (int k = 0; k < 4; k++) {
            int p = ways[k][0];
            int q = ways[k][1];
            SlopeChecker x = s.told("mode a " + p + " " + q + ";start a 0 0 0 0;");
            s.due("LIMIT " + k, x.limit(0, 1, k, 0), 1000);
            s.due("1000", x.has(0, 1, 1000 * p, 1000 * q, 1), 1);
            s.due("a bit less", x.has(0, 1, 28999 * p, 28999 * q, 29), 1);
            s.due("a bit more", x.has(0, 1, 29001 * p, 29001 * q, 29), 0);
            SlopeChecker fast = s.told("mode a " + 7 * p + " " + 7 * q + ";start a 0 0 0 0;");
            s.due("LIMIT " + k + " of a fast one", fast.limit(0, 1, k, 0), 1000);
            s.due("LIMIT " + k + " of a fast one, below", fast.limit(0, 1, k, 1), 1);
        }

        s.of(5, "GROWN by a MODE: all points that are come to from a point of the SET by its SLOPES times a time of 0 or more, "
            + "within what the MODE keeps and -1000 .. 1000.");
        SlopeChecker kept = s.told("mode a 2 1;keep a 1 0 7;start a 0 0 0 0;");
        s.due("at once", kept.has(0, 1, 0, 0, 1), 1);
        s.due("ahead of it", kept.has(0, 1, -2, -1, 30), 0);
        s.due("at the bound", kept.has(0, 1, 14, 7, 2), 1);
        s.due("behind the bound", kept.has(0, 1, 212, 106, 30), 0);
        s.due("off its slopes", kept.has(0, 1, 60, 29, 30), 0);
        s.due("no slopes", s.told("mode a 0 0;start a 0 0 0 0;").part(0, 8), 1);

        s.of(5, "JOINED are two SETS: of each NORMAL the greater LIMIT.");
        String two = "mode a 0 0;start a 0 0 0 0;edge a a;add x 2;add y 3;most 1;";
        SlopeChecker box = s.stepped(two, 1);
        s.due("its corner", box.has(1, 1, 2, 0, 1), 1);
        s.due("a bit off", box.has(1, 1, 61, 0, 30), 0);
        SlopeChecker slant = s.stepped(two + "harm a 1 -1 -9;", 1);
        s.due("LIMIT of 1 -1", slant.limit(1, 1, slant.normalOf(1, -1), 0), 0);
        s.due("on its side", slant.has(1, 1, 2, 2, 1), 1);
        s.due("off its side", slant.has(1, 1, 60, 59, 30), 0);
        String[] guards = {"when 3 0 7;", "when 2 0 5;"};
        for (int first = 0; first < 2; first++) {
            SlopeChecker x = s.stepped("mode a 0 0;mode c 0 0;start a 2 9 0 0;edge a c;" + guards[first] + "edge a c;put y 1;"
                + guards[1 - first] + "most 1;", 1);
            s.due("5/2 of 7/3 and 5/2", x.limit(2, 1, 0, 0), 5);
            s.due("5/2 of 7/3 and 5/2, below", x.limit(2, 1, 0, 1), 2);
        }
    }

    private static void takes() {
        s.of(5, "A STEP takes the OPEN PART of the least number; it is OPEN no more.");
        SlopeChecker x = s.told("mode a 0 0;mode b 0 0;start a 0 0 0 0;edge a b;add x 1;edge a b;add x 2;edge b a;add y 1;");
        s.due("PART 0 is OPEN", x.part(0, 5), 1);
        x.step(1);
        s.due("PART 0 is OPEN no more", x.part(0, 5), 0);
        s.due("PART 1 is OPEN", x.part(1, 5), 1);
        s.due("PART 2 is OPEN", x.part(2, 5), 1);
        x.step(1);
        s.due("PART 1 is OPEN no more", x.part(1, 5), 0);
        s.due("PART 2 is OPEN still", x.part(2, 5), 1);
        s.due("PART 3 came from PART 1", x.part(3, 1), 1);
    }

    private static void guardThenEntry() {
        s.of(5, "its SET CUT by the GUARD");
        String cut = "mode a 0 0;mode b 0 0;start a 0 9 0 9;edge a b;when ";
        int[][] want = {{5, 0, 9, 0}, {9, -5, 9, 0}, {9, 0, 5, 0}, {9, 0, 9, -5}};
        String[] guards = {"1 0 5;", "-1 0 -5;", "0 1 5;", "0 -1 -5;"};
        for (int i = 0; i < 4; i++) {
            SlopeChecker x = s.stepped(cut + guards[i], 1);
            for (int k = 0; k < 4; k++) {
                s.due("LIMIT " + k + " behind " + guards[i], x.limit(1, 0, k, 0), want[i][k]);
                s.due("the SET it came from stays, LIMIT " + k, x.limit(0, 1, k, 0), new int[] {9, 0, 9, 0}[k]);
            }
        }
        SlopeChecker grownAhead = s.stepped("mode a 1 0;mode b 0 0;start a 0 0 0 0;edge a b;when -1 0 -7;", 1);
        s.due("its SET, not its ENTRY", grownAhead.count(3), 2);
        s.due("ahead of what is put", s.stepped(cut + "1 0 5;put x 8;", 1).limit(1, 0, 0, 0), 8);
        s.due("ahead of what is added", s.stepped(cut + "1 0 5;add x 8;", 1).limit(1, 0, 0, 0), 13);

        s.of(5, "else it is an ENTRY, GROWN by that MODE a SET.");
        SlopeChecker x = s.stepped("mode a 0 0;mode b 2 -1;keep b 1 0 5;start a 0 1 0 0;edge a b;", 1);
        int[] entry = {1, 0, 0, 0, 1, 0};
        int[] set = {5, 0, 0, 5, 1, 0};
        int[] below = {1, 1, 1, 2, 1, 1};
        for (int k = 0; k < 6; k++) {
            s.due("ENTRY, LIMIT " + k, x.limit(1, 0, k, 0), entry[k]);
            s.due("SET, LIMIT " + k, x.limit(1, 1, k, 0), set[k]);
            s.due("SET, LIMIT " + k + ", below", x.limit(1, 1, k, 1), below[k]);
        }
        s.due("grown by the MODE to which it leads alone", s.stepped("mode a 2 -1;mode b 0 0;start a 0 1 0 0;edge a b;when 1 0 1;", 1)
            .part(1, 8), 3);
    }

    private static void edgesTaken() {
        s.of(5, "is one of both empty, nothing");
        String guard = "mode a 0 0;mode b 0 0;start a 0 5 0 0;edge a b;when -1 0 ";
        s.due("the GUARD holds in one point", s.stepped(guard + "-5;", 1).count(3), 2);
        s.due("the GUARD holds nowhere", s.stepped(guard + "-6;", 1).count(3), 1);
        s.due("nor a ninth off", s.stepped("mode a 0 0;mode b 0 0;start a 0 5 0 0;edge a b;when -9 0 -46;", 1).count(3), 1);
        String kept = "mode a 0 0;mode b 0 0;start a 0 5 0 0;edge a b;add x 1;keep b -1 0 ";
        s.due("kept in one point", s.stepped(kept + "-6;", 1).count(3), 2);
        s.due("kept nowhere", s.stepped(kept + "-7;", 1).count(3), 1);
        s.due("nothing is COVERED by that", s.stepped(kept + "-7;", 1).check(7), 0);
        s.due("it doesn't STOP by that", s.stepped(kept + "-7;", 1).check(3), 0);
        SlopeChecker entry = s.stepped(kept + "-5;", 1);
        s.due("ENTRY is cut by what is kept", entry.limit(1, 0, 1, 0), -5);
        s.due("ENTRY is cut by nothing else", entry.limit(1, 0, 0, 0), 6);
        String back = "mode a 0 0;mode b -1 0;keep b 1 0 5;start a 0 0 0 0;edge a b;put x ";
        s.due("from 5 back", s.stepped(back + "5;", 1).count(3), 2);
        s.due("not from 6 back", s.stepped(back + "6;", 1).count(3), 1);

        s.of(5, "By each EDGE from its MODE, by numbers");
        SlopeChecker x = s.stepped("mode a 0 0;mode b 0 0;start a 0 0 0 0;edge a b;add x 3;edge b b;add x 5;edge a b;add x 1;", 1);
        s.due("PARTS by EDGES 0 and 2", x.count(3), 3);
        s.due("EDGE of PART 1", x.part(1, 2), 0);
        s.due("EDGE of PART 2", x.part(2, 2), 2);
        s.due("x of PART 1", x.limit(1, 1, 0, 0), 3);
        s.due("x of PART 2", x.limit(2, 1, 0, 0), 1);
    }

    /** What EDGE 9 puts and adds is its own. */
    private static void lastEdge() {
        s.of(5, "put: a size becomes N, -999 .. 999; add: it is N more, -999 .. 999: of the latest edge");
        StringBuilder ten = new StringBuilder("mode a 0 0;mode b 0 0;start a 1 2 3 4;");
        for (int e = 0; e < 9; e++) {
            ten.append("edge b b;add x ").append(e + 20).append(";put y ").append(e + 40).append(';');
        }
        String[] done = {"put x -999;add y 990;", "add x 998;add y -999;", "add x 7;put y 999;", ""};
        int[][] want = {{-999, 999, 994, -993}, {1000, -999, -995, 996}, {9, -8, 999, -999}, {2, -1, 4, -3}};
        for (int i = 0; i < done.length; i++) {
            SlopeChecker x = s.stepped(ten + "edge a b;" + done[i], 1);
            for (int k = 0; k < 4; k++) {
                s.due("LIMIT " + k + " by " + done[i], x.limit(1, 0, k, 0), want[i][k]);
            }
        }
    }

    private static void movedBeyond() {
        s.of(5, "put and added to (all points, also beyond -1000 .. 1000), CUT by what the MODE to which it leads keeps and -1000 .. 1000");
        String[] starts = {"990 999 0 0;edge a a;add x ", "-999 -990 0 0;edge a a;add x -",
            "0 0 990 999;edge a a;add y ", "0 0 -999 -990;edge a a;add y -"};
        for (int k = 0; k < 4; k++) {
            String text = "mode a 0 0;start a " + starts[k];
            SlopeChecker all = s.stepped(text + "1;", 1);
            s.due("all within, to", all.limit(1, 0, k, 0), 1000);
            s.due("all within, from", all.limit(1, 0, k ^ 1, 0), -991);
            SlopeChecker some = s.stepped(text + "2;", 1);
            s.due("not all within, to", some.limit(1, 0, k, 0), 1000);
            s.due("not all within, from", some.limit(1, 0, k ^ 1, 0), -992);
            SlopeChecker point = s.stepped(text + "10;", 1);
            s.due("one point, corners", point.part(1, 9), 1);
            s.due("one point", point.limit(1, 0, k ^ 1, 0), -1000);
            s.due("none", s.stepped(text + "11;", 1).count(3), 1);
        }
    }

    private static void covered() {
        s.of(5, "Is that in the SET of a PART of that MODE that isn't GONE (each LIMIT not above its): COVERED, nothing.");
        String[] puts = {"put x ", "put x -", "put y ", "put y -"};
        for (String put : puts) {
            String text = "mode a 0 0;start a -9 9 -9 9;edge a a;" + put;
            SlopeChecker in = s.stepped(text + "9;", 1);
            s.due(put + "9: PARTS", in.count(3), 1);
            s.due(put + "9: COVERED", in.check(7), 1);
            SlopeChecker out = s.stepped(text + "10;", 1);
            s.due(put + "10: PARTS", out.count(3), 2);
            s.due(put + "10: COVERED", out.check(7), 0);
        }
        SlopeChecker same = s.stepped("mode a 0 0;start a 0 0 0 0;edge a a;edge a a;", 1);
        s.due("by the same SET, two times", same.check(7), 2);
        SlopeChecker other = s.stepped("mode a 0 0;mode b 0 0;start a 0 0 0 0;edge a b;edge a b;", 1);
        s.due("not by a PART of another MODE", other.count(3), 2);
        s.due("but by the one just made", other.check(7), 1);
        SlopeChecker half = s.stepped("mode a 0 0;keep a 2 0 5;mode b 0 0;start a 0 9 0 0;edge a b;edge b b;add x 1;when 2 0 3;", 2);
        s.due("5/2 in 5/2", half.check(7), 1);
        half = s.stepped("mode a 0 0;keep a 2 0 5;mode b 0 0;start a 0 9 0 0;edge a b;edge b b;add x 1;when 9 0 14;", 2);
        s.due("23/9 not in 5/2", half.check(7), 0);
    }

    private static void most() {
        s.of(5, "Else, if there are MOST PARTS of that MODE that aren't GONE");
        for (int most = 1; most <= 8; most++) {
            mostIs(COUNTER + "most " + most + ";", most);
        }
        mostIs(COUNTER, 4);
        SlopeChecker two = s.stepped("mode a 0 0;mode b 0 0;start a 0 0 0 0;edge a b;edge b a;add x 1;most 1;", 1);
        s.due("one of each MODE", two.check(8), 0);
        two.step(1);
        s.due("a second of the first MODE", two.check(8), 1);

        s.of(5, "the new one's SET is both it and the one of the greatest number of these JOINED, GROWN by that MODE, "
            + "which is GONE then (OPEN no more); the new one isn't EXACT");
        SlopeChecker x = s.stepped(COUNTER + "edge a a;add x 3;most 2;", 1);
        s.due("PARTS by both EDGES", x.count(3), 3);
        s.due("PART 0 isn't GONE", x.part(0, 6), 0);
        s.due("PART 1 is GONE", x.part(1, 6), 1);
        s.due("PART 1 is OPEN no more", x.part(1, 5), 0);
        s.due("PART 1 stays EXACT", x.part(1, 4), 1);
        s.due("PART 2 is OPEN", x.part(2, 5), 1);
        s.due("PART 2 isn't EXACT", x.part(2, 4), 0);
        s.due("its SET, from", x.limit(2, 1, 1, 0), -1);
        s.due("its SET, to", x.limit(2, 1, 0, 0), 3);
        s.due("its ENTRY, from", x.limit(2, 0, 1, 0), -3);
        // what is kept goes farther to the right between both than at either: only what is GROWN anew comes there
        String roof = "mode a 1 0;keep a 1 1 10;keep a 1 -1 10;start a 0 0 -5 -5;edge a a;put x 0;add y ";
        SlopeChecker grown = s.stepped(roof + "10;most 1;", 1);
        s.due("one to the right of 5 ahead", grown.limit(0, 1, 0, 0), 5);
        s.due("up to the roof", grown.limit(1, 1, 0, 0), 10);
        SlopeChecker below = s.stepped(roof + "4;most 1;", 1);
        s.due("not up to the roof", below.limit(1, 1, 0, 0), 9);
    }

    private static void mostIs(String text, int most) {
        SlopeChecker x = s.told(text);
        for (int i = 1; i < most; i++) {
            x.step(1);
        }
        s.due("PARTS up to MOST " + most, x.count(3), most);
        s.due("none JOINED", x.check(8), 0);
        s.due("none GONE", x.check(5), 0);
        x.step(1);
        s.due("PARTS behind MOST " + most, x.count(3), most + 1);
        s.due("one JOINED", x.check(8), 1);
        s.due("one GONE", x.check(5), 1);
        s.due("the last one", x.part(most - 1, 6), 1);
        s.due("PARTS that aren't GONE", Sentences.modeOr(x, 0, 5), most);
    }

    private static void exact() {
        s.of(5, "A new PART is OPEN, DEPTH 1 more than that of what it came from, EXACT, if that is (and it isn't JOINED).");
        String text = "mode a 0 0;mode c 0 0;start a 0 0 0 0;edge a a;add x 1;most 2;edge a c;when -1 0 ";
        SlopeChecker from = s.stepped(text + "-1;", 2);
        s.due("from PART 1", from.part(3, 1), 1);
        s.due("that is EXACT", from.part(1, 4), 1);
        s.due("it is EXACT", from.part(3, 4), 1);
        s.due("its DEPTH", from.part(3, 3), 2);
        SlopeChecker joined = s.stepped(text + "-2;", 3);
        s.due("from PART 2", joined.part(4, 1), 2);
        s.due("that isn't EXACT", joined.part(2, 4), 0);
        s.due("it isn't EXACT, though not JOINED", joined.part(4, 4), 0);
        s.due("it is OPEN", joined.part(4, 5), 1);
        s.due("its DEPTH", joined.part(4, 3), 3);
    }

    private static void part61() {
        s.of(5, "would a 61st PART come (asked ahead of MOST)");
        String closed = COUNTER + "most 8;when 1 0 58;";
        SlopeChecker x = s.told(closed);
        s.due("60 STEPS", x.step(60), 60);
        s.due("60 PARTS", x.count(3), 60);
        s.due("the 61st is COVERED", x.check(7), 1);
        s.due("it doesn't STOP", x.check(3), 0);
        s.due("SAFE", x.check(0), 1);
        SlopeChecker y = s.told(COUNTER + "most 8;when 1 0 59;");
        s.due("60 STEPS, too", y.step(60), 60);
        s.due("60 PARTS, too", y.count(3), 60);
        s.due("it STOPS", y.check(3), 2);
        s.due("nothing is COVERED", y.check(7), 0);
        SlopeChecker other = s.stepped(closed + "mode b 0 0;edge a b;when -1 0 -59;", 60);
        s.due("the 61st of another MODE", other.check(3), 2);
        s.due("the 61st isn't made", other.count(3), 60);
        SlopeChecker none = s.stepped(closed + "mode b 0 0;edge a b;when -1 0 -60;", 60);
        s.due("none of another MODE", none.check(3), 0);
    }

    private static void whatStays() {
        s.of(5, "the CHECK STOPS there: what was made ahead stays (nothing is GONE for what can't be), the PART taken isn't OPEN.");
        SlopeChecker ahead = s.stepped(COUNTER + "most 8;", 59);
        s.due("GONE ahead of the STOP", ahead.check(5), 52);
        s.due("the last one is OPEN", ahead.part(59, 5), 1);
        ahead.step(1);
        s.due("GONE behind the STOP", ahead.check(5), 52);
        s.due("JOINED behind the STOP", ahead.check(8), 52);
        s.due("the last one isn't GONE", ahead.part(59, 6), 0);
        s.due("the PART taken isn't OPEN", ahead.part(59, 5), 0);
        String put = "put x 7;put y 7;";
        String both = AT_3002 + put + "edge b c;when " + LINE_3002 + "edge b c;put x 8;put y 8;";
        SlopeChecker x = s.stepped(both, 60);
        s.due("STEPS", x.count(4), 2);
        s.due("PARTS: one made ahead of the STOP, none behind it", x.count(3), 3);
        s.due("it came by EDGE 1", x.part(2, 2), 1);
        s.due("it is OPEN", x.part(2, 5), 1);
        s.due("the PART taken isn't OPEN", x.part(1, 5), 0);
        s.due("OPEN", x.check(4), 1);
        s.due("no STEP more", x.step(1), 0);
        SlopeChecker y = s.stepped(AT_3000 + put + "edge b c;when " + LINE_3000 + "edge b c;put x 8;put y 8;", 2);
        s.due("all PARTS without a STOP", y.count(3), 5);
    }

    private static void harm() {
        s.of(6, "HARM of a MODE (with one BOUND of harm at least): points that hold all of these.");
        String set = "mode a 0 0;start a 0 5 0 5;";
        s.due("no BOUND of harm", s.told(set).part(0, 7), 0);
        s.due("at its side", s.told(set + "harm a -1 0 -5;").part(0, 7), 1);
        s.due("off its side", s.told(set + "harm a -1 0 -6;").part(0, 7), 0);
        s.due("off its side by a ninth", s.told(set + "harm a -9 0 -46;").part(0, 7), 0);
        s.due("at its corner", s.told(set + "harm a -1 -1 -10;").part(0, 7), 1);
        s.due("off its corner", s.told(set + "harm a -1 -1 -11;").part(0, 7), 0);
        s.due("both hold at 3", s.told(set + "harm a 1 0 3;harm a -1 0 -3;").part(0, 7), 1);
        s.due("both hold nowhere", s.told(set + "harm a 1 0 2;harm a -1 0 -3;").part(0, 7), 0);
        s.due("all three hold", s.told(set + "harm a 1 0 3;harm a -1 0 -3;harm a 0 -1 -5;").part(0, 7), 1);
        s.due("the third doesn't", s.told(set + "harm a 1 0 3;harm a -1 0 -3;harm a 0 -1 -6;").part(0, 7), 0);
        s.due("of another MODE", s.told(set + "mode b 0 0;harm b 1 0 9;").part(0, 7), 0);

        s.of(6, "A PART is HARMED, if its SET has such points (asked as it is made; whether LIMITS would be BEYOND isn't asked).");
        SlopeChecker fine = s.stepped("mode a -7 9;keep a -1 8 28;mode b 5 -1;start a 0 0 -20 -20;edge a b;when 1 -8 -28;"
            + "harm b -9 -7 25;", 1);
        s.due("HARMED from 3002 below on", fine.part(1, 7), 1);
        s.due("it doesn't STOP", fine.check(3), 0);
        SlopeChecker told = s.stepped("mode a -4 9;keep a -7 8 27;mode b 7 2;start a -18 -18 -29 -29;edge a b;when 7 -8 -27;"
            + "harm b -4 -1 -26;", 1);
        s.due("HARMED from 3000 below on", told.part(1, 7), 1);
        SlopeChecker gone = s.stepped(COUNTER + "most 1;harm a -1 0 -1;", 2);
        s.due("PART 1 is GONE", gone.part(1, 6), 1);
        s.due("PART 1 is HARMED still", gone.part(1, 7), 1);
        s.due("PART 0 isn't", gone.part(0, 7), 0);
    }

    private static void safe() {
        s.of(6, "SAFE: no PART is HARMED, none is OPEN, it didn't STOP.");
        String one = "mode a 0 0;start a 0 0 0 0;";
        s.due("one OPEN", s.told(one).check(0), 0);
        s.due("none OPEN", s.stepped(one, 1).check(0), 1);
        s.due("HARMED", s.stepped(one + "harm a 1 0 0;", 1).check(0), 0);
        s.due("not HARMED", s.stepped(one + "harm a 1 0 -1;", 1).check(0), 1);
        s.due("STOPPED by a 61st PART", s.stepped(COUNTER + "most 8;when 1 0 59;", 60).check(0), 0);
        s.due("not STOPPED by 60 PARTS", s.stepped(COUNTER + "most 8;when 1 0 58;", 60).check(0), 1);
        s.due("one OPEN among 60", s.stepped(COUNTER + "most 8;when 1 0 58;", 59).check(0), 0);
        SlopeChecker beyond = s.told("mode a -4 -9;keep a 5 7 420;keep a -6 -7 367;harm a 7 -9 0;start a 443 496 -294 -294;");
        s.due("no PART, STOPPED", beyond.check(0), 0);
        s.due("no PART, not STOPPED", s.told("mode a 0 0;").check(0), 1);
        SlopeChecker harmedGone = s.stepped("mode a 0 0;start a 0 0 0 0;edge a a;when 1 0 0;add x 4;most 1;harm a 1 0 0;"
            + "harm a -1 0 0;", 60);
        s.due("HARMED, though GONE", harmedGone.check(0), 0);
    }

    private static void check() {
        s.of(6, "What 0 whether it is SAFE (1, 0)");
        s.due("a new one", new SlopeChecker().check(0), 1);
        s.due("OPEN", s.told(COUNTER).check(0), 0);
        s.due("STOPPED", s.stepped(COUNTER, 60).check(0), 0);
        s.due("through", s.stepped("mode a 1 0;start a 0 0 0 0;edge a a;", 1).check(0), 1);
        s.due("harm", s.stepped("mode a 1 0;start a 0 0 0 0;edge a a;harm a -1 0 -999;", 1).check(0), 0);

        s.of(6, "1 the first PART that is HARMED (-2: none), 2 the first such one that is EXACT (-2), "
            + "3 why it STOPS (0: it doesn't, 1 BEYOND, 2 a 61st PART)");
        SlopeChecker none = s.stepped(COUNTER + "most 2;harm a -1 0 -3;", 2);
        s.due("none HARMED", none.check(1), -2);
        s.due("none HARMED and EXACT", none.check(2), -2);
        none.step(1);
        s.due("PART 3 is HARMED", none.check(1), 3);
        s.due("but not EXACT", none.check(2), -2);
        SlopeChecker exact = s.stepped(COUNTER + "most 2;harm a -1 0 -1;", 3);
        s.due("PART 1 is HARMED", exact.check(1), 1);
        s.due("and EXACT", exact.check(2), 1);
        s.due("PART 0 is", s.told(COUNTER + "harm a 1 0 0;").check(1), 0);
        s.due("it doesn't STOP", exact.check(3), 0);
        s.due("BEYOND", s.stepped(AT_3002 + "when " + LINE_3002, 60).check(3), 1);
        s.due("not BEYOND", s.stepped(AT_3000 + "when " + LINE_3000, 60).check(3), 0);
        s.due("a 61st PART", s.stepped(COUNTER, 60).check(3), 2);
        s.due("no 61st PART", s.stepped(COUNTER, 59).check(3), 0);

        s.of(6, "4 how many PARTS are OPEN, 5 GONE, 6 HARMED, 7 COVERED (how often), 8 JOINED.");
        int[] new4 = {1, 0, 0, 0, 0};
        int[] all = {0, 56, 58, 0, 56};
        SlopeChecker x = s.told(COUNTER + "harm a -1 0 -2;");
        SlopeChecker y = s.stepped(COUNTER + "harm a -1 0 -2;", 60);
        for (int i = 0; i < 5; i++) {
            s.due("check(" + (4 + i) + ") at first", x.check(4 + i), new4[i]);
            s.due("check(" + (4 + i) + ") at last", y.check(4 + i), all[i]);
        }
        s.due("PART 0 is HARMED", s.told(COUNTER + "harm a 1 0 0;").check(6), 1);
        s.due("COVERED ten times", s.stepped("mode a 0 0;start a 0 0 0 0;" + Sentences.times(10, "edge a a;"), 1).check(7), 10);

        s.of(6, "NONE for another what.");
        s.due("check(-1)", y.check(-1), -1);
        s.due("check(0)", y.check(0), 0);
        s.due("check(8)", y.check(8), 56);
        s.due("check(9)", y.check(9), -1);
        for (int what : FAR) {
            s.due("check(" + what + ")", y.check(what), -1);
        }
    }
}
