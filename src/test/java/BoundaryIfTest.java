/** The borders that the promises 25 to 29 name: what would be, and counts; and what ==== 4. says of all. */
public final class BoundaryIfTest {
    private static final String COUNTER = "mode a 0 0;start a 0 0 0 0;edge a a;add x 1;most 8;";
    private static final String BOUNCE = "mode a 1 0;mode b 0 1;keep a 1 0 10;edge a b;when -1 0 -4;"
        + "edge b a;when 0 -1 -6;put x 0;start a 0 2 0 0;harm b 0 -1 -8;";
    private static final String NO_START = "mode a 1 0;edge a a;";
    /** A CHECK of it has 60 PARTS: the 61st is COVERED up to 58, and STOPS it from 59 on. */
    private static final String UP_TO = "mode a 0 0;start a 0 0 0 0;edge a a;add x 1;when 1 0 ";
    private static final int[] FAR = {Integer.MIN_VALUE, Integer.MIN_VALUE + 1, Integer.MAX_VALUE - 1, Integer.MAX_VALUE};

    private static Sentences s;

    public static void main(String[] args) throws Exception {
        s = new Sentences(args);
        ifStart();
        ifStartNumbers();
        ifMost();
        ifWithout();
        blamed();
        count();
        noneFirst();
        changesNothing();
        s.end(25, 29);
    }

    private static void ifStart() {
        s.of(25, "what 0 PARTS there would be, 1 the first that is HARMED (-2), 2 why it STOPS, 3 whether it is SAFE (1, 0), 4 OPEN ones");
        SlopeChecker x = s.told("mode a 0 0;keep a 1 0 60;start a 60 60 0 0;edge a a;add x 1;most 8;harm a -1 0 -60;");
        int[][] want = {{1, 0, 0, 0, 0}, {2, 1, 0, 0, 0}, {60, -2, 2, 0, 0}, {0, -2, 0, 1, 0}};
        int[] starts = {60, 59, -1, 61};
        for (int i = 0; i < starts.length; i++) {
            for (int what = 0; what < 5; what++) {
                s.due("from " + starts[i] + ", what " + what, x.ifStart(starts[i], starts[i], 0, 0, 60, what), want[i][what]);
            }
        }
        s.due("one STEP, PARTS", x.ifStart(0, 0, 0, 0, 1, 0), 2);
        s.due("one STEP, OPEN", x.ifStart(0, 0, 0, 0, 1, 4), 1);
        s.due("59 STEPS, why", x.ifStart(-1, -1, 0, 0, 59, 2), 0);
        s.due("60 STEPS, why", x.ifStart(-1, -1, 0, 0, 60, 2), 2);
        SlopeChecker beyond = s.told("mode a -4 -9;keep a 5 7 420;keep a -6 -7 367;harm a 7 -9 0;start a 0 0 0 0;");
        s.due("BEYOND at once, why", beyond.ifStart(443, 496, -294, -294, 1, 2), 1);
        s.due("BEYOND at once, PARTS", beyond.ifStart(443, 496, -294, -294, 1, 0), 0);
        SlopeChecker told = s.told("mode a -8 1;keep a 7 -2 250;keep a -8 -3 768;harm a -8 9 0;start a 0 0 0 0;");
        s.due("not BEYOND, why", told.ifStart(-231, 169, 464, 464, 1, 2), 0);
        s.due("not BEYOND, PARTS", told.ifStart(-231, 169, 464, 464, 1, 0), 1);

        s.of(25, "-2: there is no start");
        SlopeChecker none = s.told(NO_START);
        s.due("no start", none.ifStart(0, 0, 0, 0, 1, 0), -2);
        s.due("no TEXT", new SlopeChecker().ifStart(0, 0, 0, 0, 1, 0), -2);
        s.due("a start of no point that is kept", s.told("mode a 0 0;keep a 1 0 -1;start a 0 0 0 0;").ifStart(-1, -1, 0, 0, 1, 0), 1);
    }

    private static void ifStartNumbers() {
        s.of(25, "Were the start's x from, to, y from, to others (as of a TEXT), a CHECK of n 1 .. 60 STEPS");
        SlopeChecker x = s.told("mode a 0 0;start a 0 0 0 0;");
        s.due("the widest", x.ifStart(-999, 999, -999, 999, 1, 0), 1);
        s.due("x from -1000", x.ifStart(-1000, 999, -999, 999, 1, 0), -1);
        s.due("x to 1000", x.ifStart(-999, 1000, -999, 999, 1, 0), -1);
        s.due("y from -1000", x.ifStart(-999, 999, -1000, 999, 1, 0), -1);
        s.due("y to 1000", x.ifStart(-999, 999, -999, 1000, 1, 0), -1);
        s.due("x from 1000", x.ifStart(1000, 1000, 0, 0, 1, 0), -1);
        s.due("x to -1000", x.ifStart(-1000, -1000, 0, 0, 1, 0), -1);
        s.due("y from 1000", x.ifStart(0, 0, 1000, 1000, 1, 0), -1);
        s.due("y to -1000", x.ifStart(0, 0, -1000, -1000, 1, 0), -1);
        s.due("x to is from", x.ifStart(3, 3, 0, 0, 1, 0), 1);
        s.due("x to below from", x.ifStart(3, 2, 0, 0, 1, 0), -1);
        s.due("y to is from", x.ifStart(0, 0, -3, -3, 1, 0), 1);
        s.due("y to below from", x.ifStart(0, 0, -3, -4, 1, 0), -1);

        s.of(25, "NONE: no such ones.");
        s.due("n 0", x.ifStart(0, 0, 0, 0, 0, 0), -1);
        s.due("n 60", x.ifStart(0, 0, 0, 0, 60, 0), 1);
        s.due("n 61", x.ifStart(0, 0, 0, 0, 61, 0), -1);
        s.due("n -1", x.ifStart(0, 0, 0, 0, -1, 0), -1);
        s.due("what -1", x.ifStart(0, 0, 0, 0, 1, -1), -1);
        s.due("what 4", x.ifStart(0, 0, 0, 0, 1, 4), 0);
        s.due("what 5", x.ifStart(0, 0, 0, 0, 1, 5), -1);
        for (int far : FAR) {
            s.due("x from " + far, x.ifStart(far, 0, 0, 0, 1, 0), -1);
            s.due("x to " + far, x.ifStart(0, far, 0, 0, 1, 0), -1);
            s.due("y from " + far, x.ifStart(0, 0, far, 0, 1, 0), -1);
            s.due("y to " + far, x.ifStart(0, 0, 0, far, 1, 0), -1);
            s.due("n " + far, x.ifStart(0, 0, 0, 0, far, 0), -1);
            s.due("what " + far, x.ifStart(0, 0, 0, 0, 1, far), -1);
        }
    }

    private static void ifMost() {
        s.of(26, "Were MOST m 1 .. 8, a CHECK of n 1 .. 60 STEPS: what as of ifStart()");
        SlopeChecker x = s.told(UP_TO + "5;most 8;");
        for (int m = 1; m <= 8; m++) {
            s.due("PARTS, m " + m, x.ifMost(m, 60, 0), 7);
            s.due("OPEN behind three STEPS, m " + m, x.ifMost(m, 3, 4), 1);
        }
        // PART m is JOINED with PART m - 1: harm from 1/3 to 2/3 is met by m 1 alone, that from 19/3 to 20/3 by m up to 7
        SlopeChecker early = s.told(UP_TO + "9;most 4;harm a -3 0 -1;harm a 3 0 2;");
        s.due("harm between 0 and 1, m 1", early.ifMost(1, 60, 1), 1);
        s.due("harm between 0 and 1, m 2", early.ifMost(2, 60, 1), -2);
        SlopeChecker late = s.told(UP_TO + "9;most 4;harm a -3 0 -19;harm a 3 0 20;");
        s.due("harm between 6 and 7, m 7", late.ifMost(7, 60, 1), 7);
        s.due("harm between 6 and 7, m 8", late.ifMost(8, 60, 1), -2);
        s.due("SAFE, m 7", late.ifMost(7, 60, 3), 0);
        s.due("SAFE, m 8", late.ifMost(8, 60, 3), 1);
        s.due("60 PARTS, why", s.told(UP_TO + "58;").ifMost(8, 60, 2), 0);
        s.due("a 61st, why", s.told(UP_TO + "59;").ifMost(8, 60, 2), 2);

        s.of(26, "-2: there is no start");
        s.due("no start", s.told(NO_START).ifMost(1, 1, 0), -2);
        s.due("a start", x.ifMost(1, 1, 0), 2);

        s.of(26, "NONE: no such ones.");
        s.due("m 0", x.ifMost(0, 1, 0), -1);
        s.due("m 1", x.ifMost(1, 1, 0), 2);
        s.due("m 8", x.ifMost(8, 1, 0), 2);
        s.due("m 9", x.ifMost(9, 1, 0), -1);
        s.due("m -1", x.ifMost(-1, 1, 0), -1);
        s.due("n 0", x.ifMost(1, 0, 0), -1);
        s.due("n 61", x.ifMost(1, 61, 0), -1);
        s.due("what -1", x.ifMost(1, 1, -1), -1);
        s.due("what 4", x.ifMost(1, 1, 4), 1);
        s.due("what 5", x.ifMost(1, 1, 5), -1);
        for (int far : FAR) {
            s.due("m " + far, x.ifMost(far, 1, 0), -1);
            s.due("n " + far, x.ifMost(1, far, 0), -1);
            s.due("what " + far, x.ifMost(1, 1, far), -1);
        }
    }

    private static void ifWithout() {
        StringBuilder ten = new StringBuilder("mode a 0 0;mode b 0 0;start a 0 0 0 0;most 8;");
        for (int e = 0; e < 10; e++) {
            ten.append("edge a b;put x ").append(e).append(';');
        }
        SlopeChecker x = s.told(ten + "harm b -1 0 -9;");
        s.of(27, "Were an EDGE not there, a CHECK of n 1 .. 60 STEPS: what as of ifStart()");
        for (int e = 0; e < 10; e++) {
            s.due("PARTS without " + e, x.ifWithout(e, 60, 0), 10);
            s.due("HARMED without " + e, x.ifWithout(e, 60, 1), e == 9 ? -2 : 9);
        }
        SlopeChecker bounce = s.told(BOUNCE);
        int[][] want = {{1, -2, 0, 1, 0}, {2, 1, 0, 0, 0}};
        for (int e = 0; e < 2; e++) {
            for (int what = 0; what < 5; what++) {
                s.due("without " + e + ", what " + what, bounce.ifWithout(e, 60, what), want[e][what]);
            }
        }
        s.due("one STEP without 1, OPEN", bounce.ifWithout(1, 1, 4), 1);

        s.of(27, "-2: there is no start");
        s.due("no start", s.told(NO_START).ifWithout(0, 1, 0), -2);
        s.due("a start", bounce.ifWithout(0, 1, 0), 1);

        s.of(27, "NONE: no such ones.");
        s.due("EDGE -1", x.ifWithout(-1, 1, 0), -1);
        s.due("EDGE 0", x.ifWithout(0, 1, 0), 10);
        s.due("EDGE 9", x.ifWithout(9, 1, 0), 10);
        s.due("EDGE 10", x.ifWithout(10, 1, 0), -1);
        s.due("EDGE 2 of two", bounce.ifWithout(2, 1, 0), -1);
        s.due("EDGE 0 of none", s.told("mode a 0 0;start a 0 0 0 0;").ifWithout(0, 1, 0), -1);
        s.due("n 0", x.ifWithout(0, 0, 0), -1);
        s.due("n 61", x.ifWithout(0, 61, 0), -1);
        s.due("what -1", x.ifWithout(0, 1, -1), -1);
        s.due("what 4", x.ifWithout(0, 1, 4), 8);
        s.due("what 5", x.ifWithout(0, 1, 5), -1);
        for (int far : FAR) {
            s.due("EDGE " + far, x.ifWithout(far, 1, 0), -1);
            s.due("n " + far, x.ifWithout(0, far, 0), -1);
            s.due("what " + far, x.ifWithout(0, 1, far), -1);
        }
    }

    private static void blamed() {
        s.of(28, "EDGES without which, each by itself, a CHECK of n 1 .. 60 STEPS would have no PART that is HARMED, as bits");
        String one = "mode a 0 0;mode b 0 0;start a 0 0 0 0;harm b -1 0 ";
        String nine = "edge a b;" + Sentences.times(9, "edge b b;put x 7;");
        s.due("all ten, as none is HARMED", s.told(one + "-9;" + nine).blamed(60), 1023);
        s.due("the first alone", s.told(one + "0;" + nine).blamed(60), 1);
        s.due("the last alone", s.told(one + "-9;" + Sentences.times(9, "edge a b;") + "edge a b;put x 9;").blamed(60), 512);
        s.due("two ways: none", s.told(one + "-9;edge a b;put x 9;edge a b;put x 9;").blamed(60), 0);
        s.due("one way by two", s.told(one + "-9;mode c 0 0;edge a c;put x 9;edge c b;").blamed(60), 3);
        s.due("HARMED at first", s.told("mode a 0 0;harm a 1 0 0;start a 0 0 0 0;edge a a;").blamed(60), 0);
        s.due("no EDGES", s.told("mode a 0 0;harm a 1 0 0;start a 0 0 0 0;").blamed(60), 0);
        SlopeChecker late = s.told(UP_TO + "58;most 8;harm a -1 0 -59;edge a a;when 1 0 -1;");
        s.due("harm behind 59 STEPS, 58 of them", late.blamed(58), 3);
        s.due("harm behind 59 STEPS, all of them", late.blamed(59), 1);

        s.of(28, "-2: there is no start");
        s.due("no start", s.told(NO_START).blamed(1), -2);
        s.due("a start", s.told(BOUNCE).blamed(1), 1);

        s.of(28, "NONE: no such n.");
        s.due("n 0", late.blamed(0), -1);
        s.due("n 1", late.blamed(1), 3);
        s.due("n 60", late.blamed(60), 1);
        s.due("n 61", late.blamed(61), -1);
        s.due("n -1", late.blamed(-1), -1);
        for (int far : FAR) {
            s.due("n " + far, late.blamed(far), -1);
        }
    }

    private static void count() {
        s.of(29, "0 MODES, 1 EDGES, 2 NORMALS, 3 PARTS, 4 STEPS so far, 5 MOST, 6 bytes of the TAPE.");
        SlopeChecker least = new SlopeChecker();
        int[] none = {0, 0, 4, 0, 0, 4, 0};
        SlopeChecker most = s.stepped("mode a 0 0;mode b 0 0;mode c 0 0;mode d 1 2;mode e 1 3;mode f 1 4;start a 0 0 0 0;most 8;"
            + "edge a a;add x 1;" + Sentences.times(9, "edge b b;") + "keep b 7 1 1;keep b 7 2 1;keep b 7 3 1;keep b 7 4 1;"
            + "keep c 7 5 1;keep c 7 6 1;keep c 8 1 1;keep c 8 3 1;keep d 8 5 1;keep d 8 7 1;keep d 9 1 1;keep d 9 2 1;"
            + "keep e 9 4 1;keep e 9 5 1;", 60);
        for (int i = 0; i < 45; i++) {
            most.feed(0, 0, 0, 0, 0);
        }
        int[] all = {6, 10, 24, 60, 60, 8, 900};
        for (int what = 0; what < 7; what++) {
            s.due("least count(" + what + ")", least.count(what), none[what]);
            s.due("most count(" + what + ")", most.count(what), all[what]);
        }
        most.feed(0, 0, 0, 0, 0);
        s.due("not more bytes", most.count(6), 900);
        most.step(60);
        s.due("not more PARTS", most.count(3), 60);
        s.due("not more STEPS", most.count(4), 60);

        s.of(29, "NONE for another what.");
        s.due("count(-1)", most.count(-1), -1);
        s.due("count(0)", most.count(0), 6);
        s.due("count(6)", most.count(6), 900);
        s.due("count(7)", most.count(7), -1);
        for (int what : FAR) {
            s.due("count(" + what + ")", most.count(what), -1);
        }
    }

    /** Where one call has several of these answers. */
    private static void noneFirst() {
        s.of(26, "Of several answers that hold NONE goes first, then -2, then -3.");
        SlopeChecker none = s.told(NO_START);
        s.due("no start alone, ifStart", none.ifStart(0, 0, 0, 0, 1, 0), -2);
        s.due("no start, n 61, ifStart", none.ifStart(0, 0, 0, 0, 61, 0), -1);
        s.due("no start, to below from, ifStart", none.ifStart(1, 0, 0, 0, 1, 0), -1);
        s.due("no start, what 5, ifStart", none.ifStart(0, 0, 0, 0, 1, 5), -1);
        s.due("no start, m 9, ifMost", none.ifMost(9, 1, 0), -1);
        s.due("no start, EDGE 1, ifWithout", none.ifWithout(1, 1, 0), -1);
        s.due("no start, n 0, blamed", none.blamed(0), -1);
        SlopeChecker joined = s.stepped(COUNTER, 8);
        s.due("not EXACT, wayTime", joined.wayTime(8, 0), -2);
        s.due("not EXACT, what 2, wayTime", joined.wayTime(8, 2), -1);
        s.due("no PART, no NORMAL, meets", joined.meets(9, 8, 9, 0), -1);
        s.due("no NORMAL, meets", joined.meets(8, 8, 9, 0), -2);
        s.due("no NORMAL, C 1000, meets", joined.meets(8, 8, 9, 1000), -1);
        s.due("can't begin, ride", joined.ride(0, 1001, 0, 1, 1), -2);
        s.due("can't begin, n 31, ride", joined.ride(0, 1001, 0, 1, 31), -1);
        s.due("in none, where", joined.where(0, 30000, 0, 1), -2);
        s.due("in none, n 31, where", joined.where(0, 30000, 0, 31), -1);
        // OUT would have 3002 below: a WAY to a PART like this one that isn't EXACT isn't there for both
        String fine = "mode a -7 9;keep a -1 8 28;mode b 5 -1;start a 0 0 -20 -20;edge a b;when 1 -8 -28;harm b -9 -7 25;";
        SlopeChecker exact = s.stepped(fine, 1);
        s.due("EXACT, no WAY", exact.way(1), -3);
        s.due("EXACT, no WAY, what 2", exact.wayTime(1, 2), -1);
        SlopeChecker inexact = s.stepped(fine + "most 1;edge a b;when 1 -8 -28;add x -1;", 1);
        s.due("PART 2 isn't EXACT", inexact.part(2, 4), 0);
        s.due("not EXACT, -2 goes ahead of -3", inexact.way(2), -2);
        s.due("not EXACT, -2 goes ahead of -3, wayTime", inexact.wayTime(2, 0), -2);
    }

    private static void changesNothing() {
        s.of(29, "What is asked changes nothing.");
        SlopeChecker x = asked();
        long ahead = Sentences.print(x);
        ask(x);
        s.due("behind all that can be asked", Sentences.print(x) - ahead, 0);
        s.due("the TAPE", x.count(6), 20);
        SlopeChecker y = asked();
        y.step(0);
        y.step(61);
        y.text(-1);
        y.text(21);
        y.ride(0, 0, 0, 1, 31);
        y.ride(0, 11, 0, 1, 1);
        s.due("behind what is refused", Sentences.print(y) - ahead, 0);
        y.step(1);
        s.due("behind a STEP", Sentences.print(y) == ahead ? 0 : 1, 1);
    }

    private static SlopeChecker asked() {
        SlopeChecker x = s.stepped(BOUNCE, 2);
        x.ride(0, 0, 0, 1, 3);
        x.feed(0, 0, 0, 0, 0);
        return x;
    }

    private static void ask(SlopeChecker x) {
        x.fault(0);
        x.normalOf(1, 0);
        x.corner(1, 1, 0, 0);
        x.has(1, 1, 0, 0, 1);
        x.where(0, 0, 0, 1);
        x.within(0, 1);
        x.meets(1, -1, 0, -10);
        x.way(1);
        x.onWay(2, 1, 3);
        x.wayTime(2, 0);
        x.followed();
        for (int what = 0; what < 5; what++) {
            x.ifStart(-9, 9, -9, 9, 60, what);
            x.ifMost(1, 60, what);
            x.ifWithout(0, 60, what);
        }
        x.blamed(60);
    }
}
