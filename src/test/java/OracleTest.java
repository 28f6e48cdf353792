import java.math.BigInteger;
import java.util.ArrayList;
import java.util.Arrays;
import java.util.List;
import java.util.Random;
import java.util.TreeSet;

/**
 * Runs of random calls, each answered by SlopeChecker and by a slow oracle that follows the document
 * by other means: BigInteger fractions, corners by trying all pairs of lines, times by trying all candidates.
 * Arguments: [folder of the project] [how many runs] [first seed].
 */
public final class OracleTest {
    private static int wrong = 0;

    /** Texts that come by what random ones seldom come by. */
    private static final String[] SPECIAL = {
        // the first PART is BEYOND
        "mode a 2 -5;keep a 7 -8 547;keep a -8 8 717;keep a -9 -7 410;start a -590 836 523 650;",
        "mode a -7 -5;keep a -7 2 840;keep a -8 -9 110;keep a 2 9 685;start a 771 784 -709 729;edge a a;add x 1;",
        // the TIMES of a WAY together are too fine
        "mode a 1 -7;keep a 0 -1 0;mode b -7 1;keep b -1 0 0;mode c 1 -5;keep c 0 -1 0;mode d -8 1;keep d -1 0 0;"
            + "mode e 1 -9;keep e 0 -1 0;mode f -9 1;keep f -1 0 0;start a 0 0 999 999;"
            + "edge a b;when 0 1 0;edge b a;when 1 0 0;when 0 -1 -1;"
            + "edge b c;when 1 0 0;when 0 1 1;put x 0;put y 999;edge c d;when 0 1 0;edge d c;when 1 0 0;when 0 -1 -1;"
            + "edge d e;when 1 0 0;when 0 1 1;put x 0;put y 998;edge e f;when 0 1 0;edge f e;when 1 0 0;when 0 -1 -9;"
            + "harm e 0 1 0;harm e 1 0 9;most 8;",
        // EXACT PARTS without a WAY
        "mode a 2 -9;harm a -3 9 -61;edge a a;when -4 9 9;put y 2;start a -7 -7 1 6;most 2;",
        "mode a -8 -5;keep a -7 -6 50;edge a a;put y 7;edge a a;start a 5 11 -16 -14;most 2;",
        "mode a -4 -3;keep a -4 -4 -7;keep a -8 3 5;edge a a;when 4 5 91;put x 2;start a 4 12 7 7;most 2;",
        "mode a -3 -8;mode b -4 -3;edge a b;when 7 -8 54;edge b a;start a 3 3 18 18;most 2;",
        "mode a -8 -1;keep a -8 2 53;edge a a;when -8 -1 23;add y 3;start a -1 2 -7 -7;most 2;",
        // fractions that become finer by each jump
        "mode a 1 -7;keep a 0 -1 0;mode b -7 1;keep b -1 0 0;edge a b;when 0 1 0;edge b a;when 1 0 0;start a 0 0 1 1;",
        // 24 NORMALS
        "mode a 1 2;mode b 9 7;mode c 5 3;mode d 7 2;mode e 8 3;keep a 1 4 999;keep a 3 7 999;keep a -2 5 999;"
            + "keep a 4 9 999;keep b -1 7 999;keep b 6 5 999;keep b 1 9 999;keep b 7 8 999;keep c -5 9 999;keep c 3 1 999;"
            + "edge a b;when 1 4 500;add x -11;add y 7;edge b a;put x 3;when -1 7 200;edge b c;edge c a;put y -500;"
            + "edge a d;add y -99;edge d e;edge e a;put x -99;put y 1;harm d 7 8 90;start a 0 9 0 9;most 3;",
        // more PARTS than there may be, of one MODE and of several
        "mode a 0 0;edge a a;add x 1;edge a a;add y 1;start a 0 0 0 0;most 8;",
        "mode a 1 0;mode b 0 1;edge a b;add y -3;edge b a;add x -7;edge a a;add y 2;start a 0 1 0 1;most 2;harm b 1 1 -40;",
        "mode a 0 0;start a 0 0 0 0;edge a a;add x 1;most 8;when 1 0 58;mode b 0 0;edge a b;when -1 0 -59;",
        "mode a 0 0;mode b 0 0;mode c 0 0;mode d 0 0;mode e 0 0;mode f 0 0;start a 0 0 0 0;edge a b;add x 1;edge b c;add x 1;"
            + "edge c d;add x 1;edge d e;add x 1;edge e f;add x 1;edge f a;add x 1;most 8;",
        // LIMITS just BEYOND and just not: behind a guard, behind what is kept, as GROWN, of the first PART
        "mode a -4 9;keep a -7 8 27;mode b 7 2;mode c 0 0;start a -18 -18 -29 -29;edge a b;when 7 -8 -27;edge b c;when 4 1 26;"
            + "put x 0;put y 0;",
        "mode a -7 -5;keep a -7 -6 -12;mode b -8 -1;mode c 0 0;start a 12 12 -1 -1;edge a b;when 7 6 12;edge b c;put x 7;"
            + "edge b c;when -5 2 -27;put x 0;put y 0;edge b c;put x 8;",
        "mode a -4 9;keep a -7 8 27;mode b 7 2;mode c 0 0;start a -18 -18 -29 -29;edge a b;when 7 -8 -27;edge b c;keep c 4 1 26;",
        "mode a -7 -5;keep a -7 -6 -12;mode b -8 -1;mode c 0 0;start a 12 12 -1 -1;edge a b;when 7 6 12;edge b c;keep c -5 2 -27;",
        "mode a -4 9;mode b 7 2;keep a -7 8 -25;keep b 4 1 -36;edge a b;when 7 -8 25;start a 8 8 -50 -50;",
        "mode a -7 -5;mode b -8 -1;keep a -7 -6 -8;keep b -5 2 17;edge a b;when 7 6 8;start a 46 46 16 16;",
        "mode a -3 5;mode b -2 3;keep a -6 7 -966;keep b -5 1 800;edge a b;when 6 -7 966;start a 614 614 -456 -456;",
        "mode a 7 2;mode b 5 -8;keep a 1 6 -804;keep b 8 -5 715;edge a b;when -1 -6 804;start a -704 -704 -226 -226;",
        "mode a -8 3;mode b -7 1;keep a -8 -5 -787;keep b -7 -6 -446;edge a b;when 8 5 787;start a 894 894 -135 -135;",
        "mode a -8 1;mode b 3 5;keep a -7 5 914;keep b -4 7 -289;edge a b;when 7 -5 -914;start a -194 -194 -544 -544;",
        "mode a -8 1;keep a 7 -2 250;keep a -8 -3 768;harm a -8 9 0;start a -231 169 464 464;",
        "mode a -4 -9;keep a 5 7 420;keep a -6 -7 367;harm a 7 -9 0;start a 443 496 -294 -294;",
        "mode a -9 8;keep a 7 1 -14;keep a -5 4 627;harm a 7 9 0;start a -400 106 -755 -755;",
        "mode a -1 -7;keep a 8 3 -855;keep a -5 -9 592;harm a 9 -8 0;start a -405 -373 712 712;",
        // WAYS just there and just not: x and y of OUT, TIME, x and y of IN, OUT of the place ahead, what is above of TIME
        "mode a -3 -7;keep a -4 -9 -6;mode b -4 -3;start a 4 4 3 3;edge a b;when 4 9 6;harm b -7 -4 -8;",
        "mode a 4 5;keep a 9 8 19;mode b 1 9;start a 1 1 -25 -25;edge a b;when -9 -8 -19;harm b -7 -8 -23;",
        "mode a -4 -9;keep a -3 -7 -13;mode b 8 0;start a -2 -2 24 24;edge a b;when 3 7 13;harm b -5 -2 -9;",
        "mode a 5 -2;keep a 4 -9 23;mode b -5 6;start a 12 12 18 18;edge a b;when -4 9 -23;harm b -5 9 20;",
        "mode a 0 0;mode b -9 4;edge a b;when -4 1 8;harm b -9 2 21;harm b -6 -7 37;start a -999 999 -999 999;",
        "mode a 0 0;mode b -8 3;edge a b;when -8 5 -24;harm b -8 5 12;harm b -6 -1 -35;start a -999 999 -999 999;",
        "mode a 0 0;mode b -8 7;edge a b;when -1 6 2;harm b 1 -9 -29;harm b -7 3 30;start a -999 999 -999 999;",
        "mode a 0 0;mode b 3 -8;edge a b;when 5 -8 -21;harm b -7 -6 -19;harm b 3 8 -30;start a -999 999 -999 999;",
        "mode a 0 0;mode b -3 -5;edge a b;when 1 -8 17;put y 4;harm b -8 -1 -24;harm b -3 9 -2;start a -999 999 -999 999;",
        "mode a 0 0;mode b -5 8;edge a b;when -9 -8 15;put y -3;harm b -9 -2 27;harm b 8 7 4;start a -999 999 -999 999;",
        "mode a 1 -7;keep a 0 -1 0;mode b -7 1;keep b -1 0 0;mode c 0 1;mode d 0 0;edge a b;when 0 1 0;edge b a;when 1 0 0;"
            + "when 0 -1 -12;add y 10;edge b c;when 1 0 0;when 0 1 1;add y -999;edge c d;when 0 -1 -251;harm c 0 -1 -251;most 8;"
            + "start a 0 0 760 760;",
        "mode a 1 -7;keep a 0 -1 0;mode b -7 1;keep b -1 0 0;mode c 0 1;mode d 0 0;edge a b;when 0 1 0;edge b a;when 1 0 0;"
            + "when 0 -1 -12;add y 10;edge b c;when 1 0 0;when 0 1 1;add y -999;edge c d;when 0 -1 -251;harm c 0 -1 -251;most 8;"
            + "start a 0 0 759 759;",
        // the TIMES of a WAY together just not too fine, just too fine, and too fine only between
        "mode a -4 7;keep a 9 8 9;mode b -8 -8;keep b -8 -9 57;mode c 1 8;keep c 1 6 55;mode d -8 -5;keep d -2 -9 -11;"
            + "mode e 9 6;keep e 9 7 25;start a 0 0 0 0;edge a b;when -9 -8 -9;edge b c;when 8 9 -57;put x 0;put y 0;"
            + "edge c d;when -1 -6 -55;edge d e;when 2 9 11;put x 0;put y 0;harm e -9 -7 -25;",
        "mode a -8 -5;keep a -9 -7 4;mode b 4 6;keep b -4 7 23;mode c 3 4;keep c 3 7 54;mode d -7 -4;keep d -9 -1 -13;"
            + "mode e 8 9;keep e 8 9 7;start a 0 0 0 0;edge a b;when 9 7 -4;edge b c;when 4 -7 -23;put x 0;put y 0;"
            + "edge c d;when -3 -7 -54;edge d e;when 9 1 13;put x 0;put y 0;mode f 8 9;keep f 8 9 138;edge e f;when -8 -9 -7;"
            + "put x 0;put y 0;harm f -8 -9 -138;",
        // what is kept goes farther between two SETS than at either
        "mode a 1 0;keep a 1 1 10;keep a 1 -1 10;start a 0 0 -5 -5;edge a a;put x 0;add y 10;most 1;",
    };

    public static void main(String[] args) {
        int runs = args.length > 1 ? Integer.parseInt(args[1]) : 500;
        long seed = args.length > 2 ? Long.parseLong(args[2]) : 1;
        Tally tally = new Tally();
        for (int r = 0; r < runs && wrong < 10; r++) {
            new Run(seed + r, tally).go();
        }
        System.out.println(tally.told());
        System.out.println(wrong == 0 ? "all answers are as due" : wrong + " answers are not as due");
        if (wrong != 0) {
            System.exit(1);
        }
    }

    /** What the runs came by, so that it can be seen that they come by all of it. */
    static final class Tally {
        int calls, safe, harmed, beyond, full, covered, joined, wayNone, ways, rides, rideEnds1, rideEnds2, rideEnds3;
        int deepest, mostNormals, unfollowed, blamed, startBeyond, joinBeyond, timeTooMuch, takenGone;
        int[] faults = new int[4];

        String told() {
            return "calls " + calls + ", safe " + safe + ", harmed " + harmed + ", beyond " + beyond
                + ", full " + full + ", covered " + covered + ", joined " + joined + ", ways " + ways
                + ", no way " + wayNone + ", rides " + rides + " (" + rideEnds1 + " " + rideEnds2 + " " + rideEnds3
                + "), unfollowed " + unfollowed + ", deepest " + deepest + ", normals " + mostNormals + ", blamed " + blamed
                + ", start beyond " + startBeyond + ", joined beyond " + joinBeyond + ", taken and gone " + takenGone
                + ", time too much " + timeTooMuch + ", faults " + Arrays.toString(faults);
        }
    }

    // ---------------------------------------------------------------- fractions

    static final class Frac implements Comparable<Frac> {
        static final Frac ZERO = of(0);
        final BigInteger n;
        final BigInteger d;

        Frac(BigInteger n, BigInteger d) {
            BigInteger g = n.gcd(d);
            if (d.signum() < 0) {
                g = g.negate();
            }
            this.n = n.divide(g);
            this.d = d.divide(g);
        }

        static Frac of(long n) {
            return new Frac(BigInteger.valueOf(n), BigInteger.ONE);
        }

        static Frac of(long n, long d) {
            return new Frac(BigInteger.valueOf(n), BigInteger.valueOf(d));
        }

        Frac plus(Frac f) {
            return new Frac(n.multiply(f.d).add(f.n.multiply(d)), d.multiply(f.d));
        }

        Frac minus(Frac f) {
            return plus(f.times(-1));
        }

        Frac times(long k) {
            return new Frac(n.multiply(BigInteger.valueOf(k)), d);
        }

        Frac times(Frac f) {
            return new Frac(n.multiply(f.n), d.multiply(f.d));
        }

        Frac over(long k) {
            return new Frac(n, d.multiply(BigInteger.valueOf(k)));
        }

        public int compareTo(Frac f) {
            return n.multiply(f.d).compareTo(f.n.multiply(d));
        }

        boolean beyond() {
            return n.abs().compareTo(BigInteger.valueOf(3000000)) > 0 || d.compareTo(BigInteger.valueOf(3000)) > 0;
        }
    }

    static final class Pt implements Comparable<Pt> {
        final Frac x;
        final Frac y;

        Pt(Frac x, Frac y) {
            this.x = x;
            this.y = y;
        }

        Frac along(int a, int b) {
            return x.times(a).plus(y.times(b));
        }

        public int compareTo(Pt p) {
            int c = x.compareTo(p.x);
            return c != 0 ? c : y.compareTo(p.y);
        }

        boolean beyond() {
            return x.beyond() || y.beyond();
        }
    }

    /** a x + b y is c or less. */
    static final class Half {
        final int a;
        final int b;
        final Frac c;

        Half(int a, int b, Frac c) {
            this.a = a;
            this.b = b;
            this.c = c;
        }

        boolean holds(Pt p) {
            return p.along(a, b).compareTo(c) <= 0;
        }
    }

    static List<Half> box() {
        List<Half> l = new ArrayList<>();
        l.add(new Half(1, 0, Frac.of(1000)));
        l.add(new Half(-1, 0, Frac.of(1000)));
        l.add(new Half(0, 1, Frac.of(1000)));
        l.add(new Half(0, -1, Frac.of(1000)));
        return l;
    }

    static boolean allHold(List<Half> halves, Pt p) {
        for (Half h : halves) {
            if (!h.holds(p)) {
                return false;
            }
        }
        return true;
    }

    /** All points where two of the lines meet and everything holds. */
    static TreeSet<Pt> corners(List<Half> halves) {
        TreeSet<Pt> set = new TreeSet<>();
        for (int i = 0; i < halves.size(); i++) {
            for (int j = i + 1; j < halves.size(); j++) {
                Half h = halves.get(i);
                Half g = halves.get(j);
                int det = h.a * g.b - g.a * h.b;
                if (det != 0) {
                    Frac x = h.c.times(g.b).minus(g.c.times(h.b)).over(det);
                    Frac y = g.c.times(h.a).minus(h.c.times(g.a)).over(det);
                    Pt p = new Pt(x, y);
                    if (allHold(halves, p)) {
                        set.add(p);
                    }
                }
            }
        }
        return set;
    }

    // ---------------------------------------------------------------- text

    static final class Fault extends RuntimeException {
        final int kind;
        final int place;

        Fault(int kind, int place) {
            super(null, null, false, false);
            this.kind = kind;
            this.place = place;
        }
    }

    static final class Mode {
        String name;
        int p;
        int q;
        List<Half> keeps = new ArrayList<>();
        List<Half> harms = new ArrayList<>();
    }

    static final class Edge {
        int from;
        int to;
        List<Half> guard = new ArrayList<>();
        int[] done = new int[2];
        int[] by = new int[2];

        Pt move(Pt p) {
            return new Pt(moved(p.x, 0), moved(p.y, 1));
        }

        private Frac moved(Frac f, int size) {
            return done[size] == 1 ? Frac.of(by[size]) : f.plus(Frac.of(by[size]));
        }
    }

    static final class Text {
        List<Mode> modes = new ArrayList<>();
        List<Edge> edges = new ArrayList<>();
        List<int[]> normals = new ArrayList<>();
        int startMode = -1;
        int[] start;
        int most = 4;
        int lines;

        Text() {
            normals.add(new int[] {1, 0});
            normals.add(new int[] {-1, 0});
            normals.add(new int[] {0, 1});
            normals.add(new int[] {0, -1});
        }

        int normalOf(int a, int b) {
            for (int i = 0; i < normals.size(); i++) {
                if (normals.get(i)[0] == a && normals.get(i)[1] == b) {
                    return i;
                }
            }
            return -1;
        }

        int modeOf(String name) {
            for (int i = 0; i < modes.size(); i++) {
                if (modes.get(i).name.equals(name)) {
                    return i;
                }
            }
            return -1;
        }
    }

    static int gcd(int a, int b) {
        return BigInteger.valueOf(a).gcd(BigInteger.valueOf(b)).intValue();
    }

    /** Cuts the whole text into TOKENS first, then goes along them. */
    static final class Parser {
        static final List<String> LANGUAGE =
            Arrays.asList("mode", "keep", "harm", "edge", "when", "put", "add", "start", "most", "x", "y");
        final List<String> tokens = new ArrayList<>();
        final List<Integer> places = new ArrayList<>();
        final Text text = new Text();
        int at = 0;
        boolean most = false;
        int numberPlace;

        Parser(int[] bytes, int n) {
            int i = 0;
            while (i < n) {
                char c = (char) bytes[i];
                int begin = i;
                if (c == 10 || c == 32) {
                    i++;
                    continue;
                }
                if (c >= 'a' && c <= 'z') {
                    while (i < n && bytes[i] >= 'a' && bytes[i] <= 'z') {
                        i++;
                    }
                } else if (c >= '0' && c <= '9') {
                    while (i < n && bytes[i] >= '0' && bytes[i] <= '9') {
                        i++;
                    }
                } else {
                    i++;
                }
                StringBuilder b = new StringBuilder();
                for (int j = begin; j < i; j++) {
                    b.append((char) bytes[j]);
                }
                tokens.add(b.toString());
                places.add(begin);
            }
            tokens.add("");
            places.add(n);
        }

        Text parse() {
            while (!tokens.get(at).isEmpty()) {
                line();
                if (!take().equals(";")) {
                    throw new Fault(1, places.get(at - 1));
                }
                text.lines++;
            }
            return text;
        }

        String take() {
            return tokens.get(at++);
        }

        void line() {
            int word = places.get(at);
            String kind = take();
            Edge latest = text.edges.isEmpty() ? null : text.edges.get(text.edges.size() - 1);
            switch (kind) {
                case "mode": mode(word); break;
                case "keep": { Mode m = text.modes.get(modeName()); bound(word, m.keeps, 4); break; }
                case "harm": { Mode m = text.modes.get(modeName()); bound(word, m.harms, 3); break; }
                case "edge":
                    if (text.edges.size() == 10) {
                        throw new Fault(2, word);
                    }
                    Edge e = new Edge();
                    e.from = modeName();
                    e.to = modeName();
                    text.edges.add(e);
                    break;
                case "when":
                    if (latest == null) {
                        throw new Fault(1, word);
                    }
                    bound(word, latest.guard, 4);
                    break;
                case "put":
                case "add":
                    if (latest == null) {
                        throw new Fault(1, word);
                    }
                    String s = take();
                    if (!s.equals("x") && !s.equals("y")) {
                        throw new Fault(1, places.get(at - 1));
                    }
                    int size = s.equals("x") ? 0 : 1;
                    if (latest.done[size] != 0) {
                        throw new Fault(3, word);
                    }
                    latest.by[size] = number(-999, 999);
                    latest.done[size] = kind.equals("put") ? 1 : 2;
                    break;
                case "start":
                    if (text.startMode >= 0) {
                        throw new Fault(3, word);
                    }
                    int m = modeName();
                    int x1 = number(-999, 999);
                    int x2 = number(x1, 999);
                    int y1 = number(-999, 999);
                    int y2 = number(y1, 999);
                    text.startMode = m;
                    text.start = new int[] {x1, x2, y1, y2};
                    break;
                case "most":
                    if (most) {
                        throw new Fault(3, word);
                    }
                    text.most = number(1, 8);
                    most = true;
                    break;
                default:
                    throw new Fault(1, word);
            }
        }

        void mode(int word) {
            if (text.modes.size() == 6) {
                throw new Fault(2, word);
            }
            String w = take();
            int place = places.get(at - 1);
            if (!w.matches("[a-z]{1,6}") || LANGUAGE.contains(w)) {
                throw new Fault(1, place);
            }
            if (text.modeOf(w) >= 0) {
                throw new Fault(3, place);
            }
            Mode m = new Mode();
            m.name = w;
            m.p = number(-9, 9);
            m.q = number(-9, 9);
            if (m.p != 0 || m.q != 0) {
                normal(word, -m.q, m.p);
                normal(word, m.q, -m.p);
            }
            text.modes.add(m);
        }

        int modeName() {
            int m = text.modeOf(take());
            if (m < 0) {
                throw new Fault(1, places.get(at - 1));
            }
            return m;
        }

        int number(int least, int most) {
            String t = take();
            numberPlace = places.get(at - 1);
            boolean minus = t.equals("-");
            if (minus) {
                t = take();
            }
            if (!t.matches("[0-9]+")) {
                throw new Fault(1, places.get(at - 1));
            }
            BigInteger v = new BigInteger(t);
            if (minus) {
                v = v.negate();
            }
            if (v.compareTo(BigInteger.valueOf(least)) < 0 || v.compareTo(BigInteger.valueOf(most)) > 0) {
                throw new Fault(2, numberPlace);
            }
            return v.intValue();
        }

        void normal(int word, int a, int b) {
            int g = gcd(a, b);
            if (text.normalOf(a / g, b / g) < 0) {
                if (text.normals.size() == 24) {
                    throw new Fault(2, word);
                }
                text.normals.add(new int[] {a / g, b / g});
            }
        }

        void bound(int word, List<Half> list, int room) {
            if (list.size() == room) {
                throw new Fault(2, word);
            }
            int a = number(-9, 9);
            int b = number(-9, 9);
            if (a == 0 && b == 0) {
                throw new Fault(2, numberPlace);
            }
            normal(word, a, b);
            int c = number(-999, 999);
            list.add(new Half(a, b, Frac.of(c)));
        }
    }

    // ---------------------------------------------------------------- check

    static final class OPart {
        int mode;
        Frac[] entry;
        Frac[] set;
        int from = -2;
        int edge = -2;
        int depth;
        boolean exact = true;
        boolean open = true;
        boolean gone;
        boolean harmed;
    }

    static final class Stop extends RuntimeException {
        final int why;

        Stop(int why) {
            super(null, null, false, false);
            this.why = why;
        }
    }

    static final class OCheck {
        final Text t;
        final int most;
        final int without;
        final List<OPart> parts = new ArrayList<>();
        int why;
        int steps;
        int covered;
        int joined;
        boolean joinBeyond;
        boolean takenGone;

        OCheck(Text t, int[] start, int most, int without) {
            this.t = t;
            this.most = most;
            this.without = without;
            if (t.startMode < 0) {
                return;
            }
            Mode m = t.modes.get(t.startMode);
            List<Half> halves = new ArrayList<>(m.keeps);
            halves.add(new Half(1, 0, Frac.of(start[1])));
            halves.add(new Half(-1, 0, Frac.of(-start[0])));
            halves.add(new Half(0, 1, Frac.of(start[3])));
            halves.add(new Half(0, -1, Frac.of(-start[2])));
            OPart p = new OPart();
            p.mode = t.startMode;
            try {
                p.entry = tight(halves);
                if (p.entry == null) {
                    return;
                }
                p.set = grown(p.entry, m);
                add(p);
            } catch (Stop s) {
                why = s.why;
            }
        }

        List<Half> halves(Frac[] limits) {
            List<Half> l = new ArrayList<>();
            for (int k = 0; k < limits.length; k++) {
                l.add(new Half(t.normals.get(k)[0], t.normals.get(k)[1], limits[k]));
            }
            return l;
        }

        Frac[] reach(Iterable<Pt> points) {
            Frac[] limits = new Frac[t.normals.size()];
            for (int k = 0; k < limits.length; k++) {
                for (Pt p : points) {
                    Frac f = p.along(t.normals.get(k)[0], t.normals.get(k)[1]);
                    if (limits[k] == null || f.compareTo(limits[k]) > 0) {
                        limits[k] = f;
                    }
                }
            }
            return limits;
        }

        Frac[] tight(List<Half> halves) {
            TreeSet<Pt> c = corners(halves);
            if (c.isEmpty()) {
                return null;
            }
            Frac[] limits = reach(c);
            for (Frac f : limits) {
                if (f.beyond()) {
                    throw new Stop(1);
                }
            }
            return limits;
        }

        /** The hull of the set and of the set moved so far that all of it is outside. */
        Frac[] grown(Frac[] limits, Mode m) {
            Frac[] wide = new Frac[limits.length];
            for (int k = 0; k < limits.length; k++) {
                int pace = t.normals.get(k)[0] * m.p + t.normals.get(k)[1] * m.q;
                wide[k] = limits[k].plus(Frac.of(Math.max(0, 5000L * pace)));
            }
            List<Half> halves = halves(wide);
            halves.addAll(m.keeps);
            halves.addAll(box());
            return tight(halves);
        }

        void add(OPart p) {
            Mode m = t.modes.get(p.mode);
            if (!m.harms.isEmpty()) {
                List<Half> h = halves(p.set);
                h.addAll(m.harms);
                p.harmed = !corners(h).isEmpty();
            }
            parts.add(p);
        }

        int run(int n) {
            int done = 0;
            while (done < n && why == 0) {
                int p = -1;
                for (int i = parts.size() - 1; i >= 0; i--) {
                    if (parts.get(i).open) {
                        p = i;
                    }
                }
                if (p < 0) {
                    break;
                }
                done++;
                steps++;
                parts.get(p).open = false;
                try {
                    for (int e = 0; e < t.edges.size(); e++) {
                        if (t.edges.get(e).from == parts.get(p).mode && e != without) {
                            follow(p, e);
                        }
                    }
                } catch (Stop s) {
                    why = s.why;
                }
            }
            return done;
        }

        void follow(int p, int e) {
            Edge edge = t.edges.get(e);
            Mode m = t.modes.get(edge.to);
            OPart old = parts.get(p);
            List<Half> h = halves(old.set);
            h.addAll(edge.guard);
            Frac[] cut = tight(h);
            if (cut == null) {
                return;
            }
            List<Pt> moved = new ArrayList<>();
            for (Pt c : corners(halves(cut))) {
                moved.add(edge.move(c));
            }
            List<Half> g = halves(reach(moved));
            g.addAll(m.keeps);
            g.addAll(box());
            OPart fresh = new OPart();
            fresh.entry = tight(g);
            if (fresh.entry == null) {
                return;
            }
            fresh.set = grown(fresh.entry, m);
            fresh.mode = edge.to;
            fresh.from = p;
            fresh.edge = e;
            fresh.depth = old.depth + 1;
            fresh.exact = old.exact;
            List<OPart> same = new ArrayList<>();
            for (OPart q : parts) {
                if (q.mode == edge.to && !q.gone) {
                    same.add(q);
                    if (inside(fresh.set, q.set)) {
                        covered++;
                        return;
                    }
                }
            }
            if (parts.size() == 60) {
                throw new Stop(2);
            }
            if (same.size() == most) {
                OPart last = same.get(same.size() - 1);
                Frac[] both = new Frac[cut.length];
                for (int k = 0; k < both.length; k++) {
                    both[k] = fresh.set[k].compareTo(last.set[k]) > 0 ? fresh.set[k] : last.set[k];
                }
                joinBeyond = true;
                fresh.set = grown(both, m);
                joinBeyond = false;
                takenGone |= last == old && e < t.edges.size() - 1 && t.edges.get(e + 1).from == old.mode;
                fresh.exact = false;
                last.gone = true;
                last.open = false;
                joined++;
            }
            add(fresh);
        }

        static boolean inside(Frac[] a, Frac[] b) {
            for (int k = 0; k < a.length; k++) {
                if (a[k].compareTo(b[k]) > 0) {
                    return false;
                }
            }
            return true;
        }

        int open() {
            int c = 0;
            for (OPart p : parts) {
                c += p.open ? 1 : 0;
            }
            return c;
        }

        int gone() {
            int c = 0;
            for (OPart p : parts) {
                c += p.gone ? 1 : 0;
            }
            return c;
        }

        int harmed() {
            int c = 0;
            for (OPart p : parts) {
                c += p.harmed ? 1 : 0;
            }
            return c;
        }

        int first(boolean exact) {
            for (int i = 0; i < parts.size(); i++) {
                if (parts.get(i).harmed && (!exact || parts.get(i).exact)) {
                    return i;
                }
            }
            return -2;
        }

        boolean safe() {
            return harmed() == 0 && open() == 0 && why == 0;
        }

        int whereIs(int m, Pt p) {
            for (int i = 0; i < parts.size(); i++) {
                OPart q = parts.get(i);
                if (q.mode == m && !q.gone && allHold(halves(q.set), p)) {
                    return i;
                }
            }
            return -2;
        }
    }

    // ---------------------------------------------------------------- way and ride

    static final class Place {
        int part;
        Pt in;
        Pt out;
        Frac time;
    }

    /** null: there is none. */
    static List<Place> findWay(OCheck c, int p) {
        List<Place> places = new ArrayList<>();
        Text t = c.t;
        int at = p;
        List<Half> h = c.halves(c.parts.get(p).set);
        if (c.parts.get(p).harmed) {
            h.addAll(t.modes.get(c.parts.get(p).mode).harms);
        }
        Pt out = corners(h).first();
        while (true) {
            OPart part = c.parts.get(at);
            Place place = new Place();
            place.part = at;
            place.out = out;
            Mode m = t.modes.get(part.mode);
            List<Half> entry = c.halves(part.entry);
            for (Frac time : times(entry, out, -m.p, -m.q)) {
                Pt in = new Pt(out.x.minus(time.times(m.p)), out.y.minus(time.times(m.q)));
                if (allHold(entry, in)) {
                    place.in = in;
                    place.time = time;
                    break;
                }
            }
            if (place.out.beyond() || place.in.beyond() || place.time.beyond()) {
                return null;
            }
            places.add(0, place);
            if (part.from < 0) {
                return places;
            }
            Edge e = t.edges.get(part.edge);
            h = c.halves(c.parts.get(part.from).set);
            h.addAll(e.guard);
            if (e.done[0] != 1) {
                Frac x = place.in.x.minus(Frac.of(e.by[0]));
                h.add(new Half(1, 0, x));
                h.add(new Half(-1, 0, x.times(-1)));
            }
            if (e.done[1] != 1) {
                Frac y = place.in.y.minus(Frac.of(e.by[1]));
                h.add(new Half(0, 1, y));
                h.add(new Half(0, -1, y.times(-1)));
            }
            out = corners(h).first();
            at = part.from;
        }
    }

    /** 0 and the times at which a point that goes so crosses one of the lines, rising. */
    static TreeSet<Frac> times(List<Half> halves, Pt p, int dx, int dy) {
        TreeSet<Frac> set = new TreeSet<>();
        set.add(Frac.ZERO);
        for (Half h : halves) {
            int pace = h.a * dx + h.b * dy;
            if (pace != 0) {
                Frac f = h.c.minus(p.along(h.a, h.b)).over(pace);
                if (f.compareTo(Frac.ZERO) >= 0) {
                    set.add(f);
                }
            }
        }
        return set;
    }

    static final class ORide {
        final List<Integer> modes = new ArrayList<>();
        final List<Pt> points = new ArrayList<>();
        final List<Integer> edges = new ArrayList<>();
        final List<Frac> times = new ArrayList<>();
        int end;

        int jumps() {
            return modes.size() - 1;
        }

        void add(int m, Pt p, int e, Frac t) {
            modes.add(m);
            points.add(p);
            edges.add(e);
            times.add(t);
        }
    }

    static boolean kept(Mode m, Pt p) {
        return allHold(m.keeps, p) && allHold(box(), p);
    }

    static ORide rideFrom(Text t, int mode, Pt from, int n) {
        ORide r = new ORide();
        r.add(mode, from, -2, Frac.ZERO);
        Pt p = from;
        int at = mode;
        while (true) {
            if (r.jumps() == n) {
                r.end = 3;
                return r;
            }
            Frac best = null;
            int bestEdge = -1;
            Mode m = t.modes.get(at);
            for (int i = 0; i < t.edges.size(); i++) {
                Edge e = t.edges.get(i);
                if (e.from == at) {
                    Frac f = earliest(t, m, e, p);
                    if (f != null && (best == null || f.compareTo(best) < 0)) {
                        best = f;
                        bestEdge = i;
                    }
                }
            }
            if (best == null) {
                r.end = 1;
                return r;
            }
            Edge e = t.edges.get(bestEdge);
            Pt to = e.move(new Pt(p.x.plus(best.times(m.p)), p.y.plus(best.times(m.q))));
            if (best.beyond() || to.beyond()) {
                r.end = 2;
                return r;
            }
            p = to;
            at = e.to;
            r.add(at, p, bestEdge, best);
        }
    }

    static Frac earliest(Text t, Mode m, Edge e, Pt p) {
        Mode next = t.modes.get(e.to);
        List<Half> here = new ArrayList<>(m.keeps);
        here.addAll(box());
        here.addAll(e.guard);
        List<Half> there = new ArrayList<>(next.keeps);
        there.addAll(box());
        TreeSet<Frac> candidates = times(here, p, m.p, m.q);
        candidates.addAll(times(there, e.move(p), e.done[0] == 1 ? 0 : m.p, e.done[1] == 1 ? 0 : m.q));
        for (Frac f : candidates) {
            Pt q = new Pt(p.x.plus(f.times(m.p)), p.y.plus(f.times(m.q)));
            if (allHold(here, q) && allHold(there, e.move(q))) {
                return f;
            }
        }
        return null;
    }

    // ---------------------------------------------------------------- one run

    static final class Run {
        final Random random;
        final long seed;
        final Tally tally;
        final SlopeChecker x = new SlopeChecker();
        final List<String> log = new ArrayList<>();
        int[] tape = new int[900];
        int taped;
        Text t = new Text();
        OCheck c = new OCheck(t, null, 4, -1);
        ORide ride;
        int fault;
        int place = -1;
        boolean failed;

        Run(long seed, Tally tally) {
            this.seed = seed;
            this.random = new Random(seed * 7919 + 13);
            this.tally = tally;
        }

        int pick(int least, int most) {
            return least + random.nextInt(most - least + 1);
        }

        boolean chance(int percent) {
            return random.nextInt(100) < percent;
        }

        void due(String call, long got, long want) {
            tally.calls++;
            log.add(call + " " + got);
            if (got != want && !failed) {
                failed = true;
                wrong++;
                System.out.println("seed " + seed + ": " + call + " answered " + got + ", due is " + want);
                for (String s : log) {
                    if (s.startsWith("text")) {
                        System.out.println("  " + s);
                    }
                }
            }
        }

        void go() {
            int texts = pick(1, 3);
            for (int i = 0; i < texts; i++) {
                String s = chance(3) ? SPECIAL[random.nextInt(SPECIAL.length)] : new Writer(random).write();
                if (seed <= 2 * SPECIAL.length) {
                    s = SPECIAL[(int) ((seed + i) % SPECIAL.length)];
                } else if (chance(25)) {
                    s = spoil(s);
                }
                tell(s);
                int calls = pick(10, 120);
                if (chance(70)) {
                    callStep(pick(1, 60));
                }
                for (int j = 0; j < calls && !failed; j++) {
                    call();
                }
            }
            count();
        }

        void count() {
            tally.safe += c.safe() && !c.parts.isEmpty() ? 1 : 0;
            tally.harmed += c.harmed() > 0 ? 1 : 0;
            tally.beyond += c.why == 1 ? 1 : 0;
            tally.startBeyond += c.why == 1 && c.parts.isEmpty() ? 1 : 0;
            tally.full += c.why == 2 ? 1 : 0;
            tally.joinBeyond += c.joinBeyond ? 1 : 0;
            tally.takenGone += c.takenGone ? 1 : 0;
            tally.covered += c.covered > 0 ? 1 : 0;
            tally.joined += c.joined > 0 ? 1 : 0;
            tally.mostNormals = Math.max(tally.mostNormals, t.normals.size());
            for (OPart p : c.parts) {
                if (p.exact) {
                    tally.deepest = Math.max(tally.deepest, p.depth);
                }
            }
        }

        String spoil(String s) {
            StringBuilder b = new StringBuilder(s);
            int times = pick(1, 2);
            for (int i = 0; i < times && b.length() > 0; i++) {
                int at = random.nextInt(b.length());
                String signs = "abxy019- ;\n#;;--AZ{`/:\t";
                switch (pick(0, 4)) {
                    case 4: b.insert(b.lastIndexOf(";", at) + 1, lineAt(b, random.nextInt(b.length()))); break;
                    case 0: b.deleteCharAt(at); break;
                    case 1: b.insert(at, signs.charAt(random.nextInt(signs.length()))); break;
                    case 2: b.setCharAt(at, signs.charAt(random.nextInt(signs.length()))); break;
                    default: b.setLength(at); break;
                }
            }
            return b.toString();
        }

        String lineAt(StringBuilder b, int at) {
            int end = b.indexOf(";", at);
            return b.substring(b.lastIndexOf(";", at) + 1, end < 0 ? b.length() : end + 1);
        }

        void tell(String s) {
            if (s.length() > 900) {
                return;
            }
            int[] bytes = new int[(s.length() + 19) / 20 * 20];
            for (int i = 0; i < bytes.length; i++) {
                bytes[i] = i < s.length() ? s.charAt(i) : pick(0, 255);
            }
            for (int i = 0; i < bytes.length; i += 20) {
                callFeed(bytes, i);
            }
            callText(s.length());
            if (fault != 0) {
                tally.faults[fault]++;
            }
        }

        void callFeed(int[] b, int at) {
            int[] a = new int[5];
            for (int i = 0; i < 20; i++) {
                a[i / 4] = a[i / 4] << 8 | b[at + i];
            }
            int want = -1;
            if (taped + 20 <= 900) {
                System.arraycopy(b, at, tape, taped, 20);
                taped += 20;
                want = taped;
            }
            due("feed", x.feed(a[0], a[1], a[2], a[3], a[4]), want);
        }

        void callText(int n) {
            long want = -2;
            if (n >= 0 && n <= taped) {
                taped = 0;
                try {
                    Text read = new Parser(tape, n).parse();
                    t = read;
                    c = new OCheck(t, t.start, t.most, -1);
                    ride = null;
                    want = t.lines;
                    fault = 0;
                    place = -1;
                } catch (Fault f) {
                    fault = f.kind;
                    place = f.place;
                    want = -1;
                }
            }
            StringBuilder b = new StringBuilder();
            for (int i = 0; i < n && i < 900; i++) {
                b.append((char) tape[i]);
            }
            due("text(" + n + ") " + b, x.text(n), want);
            due("fault(0)", x.fault(0), fault);
            due("fault(1)", x.fault(1), place);
        }

        void callStep(int n) {
            due("step(" + n + ")", x.step(n), n < 1 || n > 60 ? -1 : c.run(n));
        }

        int anyPart() {
            return c.parts.isEmpty() ? pick(-1, 1) : pick(chance(8) ? -1 : 0, c.parts.size() - (chance(8) ? 0 : 1));
        }

        int anyOf(int size) {
            return size == 0 ? pick(-1, 1) : pick(chance(8) ? -1 : 0, size - (chance(8) ? 0 : 1));
        }

        int anySize(int n) {
            int r = pick(0, 9);
            return r == 0 ? pick(-30002, 30002) : r < 4 ? n * pick(-1001, 1001) : r < 8 ? pick(-40 * n, 40 * n) : pick(-5, 5);
        }

        int wrap(int v, int[] odd) {
            return chance(4) ? odd[random.nextInt(odd.length)] : v;
        }

        void call() {
            switch (pick(0, 27)) {
                case 0: callStep(wrap(pick(1, chance(20) ? 60 : 3), new int[] {0, 61, -5})); break;
                case 1: { int w = pick(-1, 9); due("check(" + w + ")", x.check(w), check(w)); break; }
                case 2: mode(anyOf(t.modes.size()), pick(-1, 6)); break;
                case 3: { int e = anyOf(t.edges.size()); int w = pick(-1, 7); due("edge", x.edge(e, w), edge(e, w)); break; }
                case 4: normal(); break;
                case 5: case 6: { int p = anyPart(); int w = pick(-1, 10); due("part(" + p + ", " + w + ")", x.part(p, w), part(p, w)); break; }
                case 7: case 8: limit(anyPart(), pick(-1, 2), anyOf(t.normals.size()), pick(-1, 2)); break;
                case 9: case 10: corner(anyPart(), pick(-1, 2), pick(-1, 8), pick(-1, 4)); break;
                case 11: has(); break;
                case 12: where(); break;
                case 13: { int p = anyPart(); int q = anyPart(); due("within(" + p + ", " + q + ")", x.within(p, q), within(p, q)); break; }
                case 14: case 15: meets(); break;
                case 16: case 17: case 18: way(anyPart()); break;
                case 19: case 20: case 21: ride(); break;
                case 22: case 23: ridden(); break;
                case 24: ifStart(); break;
                case 25: if (chance(40)) { ifMost(); } break;
                case 26: if (chance(40)) { ifWithout(); } break;
                default: if (chance(20)) { blamed(); } count(pick(-1, 7)); break;
            }
        }

        long check(int w) {
            switch (w) {
                case 0: return c.safe() ? 1 : 0;
                case 1: return c.first(false);
                case 2: return c.first(true);
                case 3: return c.why;
                case 4: return c.open();
                case 5: return c.gone();
                case 6: return c.harmed();
                case 7: return c.covered;
                case 8: return c.joined;
                default: return -1;
            }
        }

        void mode(int m, int w) {
            long got;
            try {
                got = x.mode(m, w);
            } catch (IndexOutOfBoundsException e) {
                got = 100001;
            } catch (java.util.NoSuchElementException e) {
                got = 100002;
            }
            long want;
            if (m < 0 || m >= t.modes.size()) {
                want = 100001;
            } else if (w < 0 || w > 5) {
                want = 100002;
            } else {
                Mode o = t.modes.get(m);
                int edges = 0;
                for (Edge e : t.edges) {
                    edges += e.from == m ? 1 : 0;
                }
                int parts = 0;
                for (OPart p : c.parts) {
                    parts += p.mode == m && !p.gone ? 1 : 0;
                }
                want = new int[] {o.p, o.q, o.keeps.size(), o.harms.size(), edges, parts}[w];
            }
            due("mode(" + m + ", " + w + ")", got, want);
        }

        long edge(int e, int w) {
            if (e < 0 || e >= t.edges.size() || w < 0 || w > 6) {
                return -1000;
            }
            Edge o = t.edges.get(e);
            return new int[] {o.from, o.to, o.guard.size(), o.done[0], o.by[0], o.done[1], o.by[1]}[w];
        }

        void normal() {
            int k = anyOf(t.normals.size());
            int w = pick(-1, 2);
            boolean ok = k >= 0 && k < t.normals.size() && w >= 0 && w < 2;
            due("normal(" + k + ", " + w + ")", x.normal(k, w), ok ? t.normals.get(k)[w] : -1000);
            int a = pick(-9, 9);
            int b = pick(-9, 9);
            int n = t.normalOf(a, b);
            due("normalOf(" + a + ", " + b + ")", x.normalOf(a, b), n < 0 ? -2 : n);
        }

        boolean isPart(int p) {
            return p >= 0 && p < c.parts.size();
        }

        long part(int p, int w) {
            if (!isPart(p)) {
                return -1;
            }
            OPart o = c.parts.get(p);
            switch (w) {
                case 0: return o.mode;
                case 1: return o.from;
                case 2: return o.edge;
                case 3: return o.depth;
                case 4: return o.exact ? 1 : 0;
                case 5: return o.open ? 1 : 0;
                case 6: return o.gone ? 1 : 0;
                case 7: return o.harmed ? 1 : 0;
                case 8: return corners(c.halves(o.set)).size();
                case 9: return corners(c.halves(o.entry)).size();
                default: return -1;
            }
        }

        void limit(int p, int which, int k, int w) {
            long want = Integer.MIN_VALUE;
            if (isPart(p) && (which == 0 || which == 1) && k >= 0 && k < t.normals.size() && (w == 0 || w == 1)) {
                Frac f = (which == 0 ? c.parts.get(p).entry : c.parts.get(p).set)[k];
                want = (w == 0 ? f.n : f.d).longValueExact();
            }
            due("limit(" + p + ", " + which + ", " + k + ", " + w + ")", x.limit(p, which, k, w), want);
        }

        void corner(int p, int which, int i, int w) {
            long want = Long.MIN_VALUE;
            if (isPart(p) && (which == 0 || which == 1) && w >= 0 && w < 4 && i >= 0) {
                List<Pt> l = new ArrayList<>(corners(c.halves(which == 0 ? c.parts.get(p).entry : c.parts.get(p).set)));
                if (i < l.size()) {
                    Frac f = w < 2 ? l.get(i).x : l.get(i).y;
                    want = (w % 2 == 0 ? f.n : f.d).longValueExact();
                }
            }
            due("corner(" + p + ", " + which + ", " + i + ", " + w + ")", x.corner(p, which, i, w), want);
        }

        boolean isPoint(int px, int py, int n) {
            return Math.abs(px) <= 30000 && Math.abs(py) <= 30000 && n >= 1 && n <= 30;
        }

        void has() {
            int p = anyPart();
            int which = pick(-1, 2);
            int n = wrap(pick(1, 30), new int[] {0, 31, -1});
            int px = anySize(Math.max(n, 1));
            int py = anySize(Math.max(n, 1));
            if (isPart(p) && chance(60)) {
                Pt q = corners(c.halves(c.parts.get(p).set)).first();
                px = q.x.times(n).n.divide(q.x.times(n).d).intValue() + pick(0, 1);
                py = q.y.times(n).n.divide(q.y.times(n).d).intValue() + pick(0, 1);
            }
            long want = -1;
            if (isPart(p) && (which == 0 || which == 1) && isPoint(px, py, n)) {
                Frac[] l = which == 0 ? c.parts.get(p).entry : c.parts.get(p).set;
                want = allHold(c.halves(l), new Pt(Frac.of(px, n), Frac.of(py, n))) ? 1 : 0;
            }
            due("has(" + p + ", " + which + ", " + px + ", " + py + ", " + n + ")", x.has(p, which, px, py, n), want);
        }

        void where() {
            int m = anyOf(t.modes.size());
            int n = wrap(pick(1, 30), new int[] {0, 31, -1});
            int px = anySize(Math.max(n, 1));
            int py = anySize(Math.max(n, 1));
            long want = -1;
            if (m >= 0 && m < t.modes.size() && isPoint(px, py, n)) {
                want = c.whereIs(m, new Pt(Frac.of(px, n), Frac.of(py, n)));
            }
            due("where(" + m + ", " + px + ", " + py + ", " + n + ")", x.where(m, px, py, n), want);
        }

        long within(int p, int q) {
            if (!isPart(p) || !isPart(q)) {
                return -1;
            }
            return OCheck.inside(c.parts.get(p).set, c.parts.get(q).set) ? 1 : 0;
        }

        void meets() {
            int p = anyPart();
            int[] n = t.normals.get(random.nextInt(t.normals.size()));
            int by = pick(1, 3);
            int a = chance(80) ? n[0] * by : pick(-10, 10);
            int b = chance(80) ? n[1] * by : pick(-10, 10);
            int cc = pick(0, 3) == 0 ? pick(-1001, 1001) : pick(-60, 60);
            long want = -1;
            if (isPart(p) && Math.abs(a) <= 9 && Math.abs(b) <= 9 && (a != 0 || b != 0) && Math.abs(cc) <= 999) {
                int g = gcd(a, b);
                if (t.normalOf(a / g, b / g) < 0) {
                    want = -2;
                } else {
                    List<Half> h = c.halves(c.parts.get(p).set);
                    h.add(new Half(a, b, Frac.of(cc)));
                    want = corners(h).isEmpty() ? 0 : 1;
                }
            }
            due("meets(" + p + ", " + a + ", " + b + ", " + cc + ")", x.meets(p, a, b, cc), want);
        }

        void way(int p) {
            long want = -1;
            List<Place> w = null;
            if (isPart(p)) {
                want = -2;
                if (c.parts.get(p).exact) {
                    w = findWay(c, p);
                    want = w == null ? -3 : w.size();
                }
            }
            tally.ways += want > 0 ? 1 : 0;
            tally.wayNone += want == -3 ? 1 : 0;
            due("way(" + p + ")", x.way(p), want);
            for (int j = 0; j < 12; j++) {
                int i = w == null ? pick(-1, 2) : anyOf(w.size());
                int what = pick(-1, 11);
                long cell = Integer.MIN_VALUE;
                if (w != null && i >= 0 && i < w.size() && what >= 0 && what <= 10) {
                    Place o = w.get(i);
                    Frac[] f = {null, o.in.x, o.in.y, o.out.x, o.out.y, o.time};
                    Frac v = f[(what + 1) / 2];
                    cell = what == 0 ? o.part : (what % 2 == 1 ? v.n : v.d).longValueExact();
                }
                due("onWay(" + p + ", " + i + ", " + what + ")", x.onWay(p, i, what), cell);
            }
            int what = pick(chance(20) ? -1 : 0, chance(20) ? 2 : 1);
            if (what < 0 || what > 1) {
                want = -1;
            } else if (w != null) {
                Frac sum = Frac.ZERO;
                boolean tooMuch = false;
                for (Place o : w) {
                    sum = sum.plus(o.time);
                    tooMuch |= sum.n.compareTo(BigInteger.TEN.pow(15)) > 0 || sum.d.compareTo(BigInteger.TEN.pow(9)) > 0;
                    if (tooMuch) {
                        break;
                    }
                }
                tally.timeTooMuch += tooMuch ? 1 : 0;
                want = tooMuch ? -3 : (what == 0 ? sum.n : sum.d).longValueExact();
            }
            due("wayTime(" + p + ", " + what + ")", x.wayTime(p, what), want);
        }

        void ride() {
            int m = anyOf(t.modes.size());
            int by = wrap(pick(1, 30), new int[] {0, 31, -1});
            int px = anySize(Math.max(by, 1));
            int py = anySize(Math.max(by, 1));
            if (!c.parts.isEmpty() && chance(75)) {
                OPart o = c.parts.get(chance(50) ? 0 : random.nextInt(c.parts.size()));
                Pt q = chance(50) ? corners(c.halves(o.entry)).first() : corners(c.halves(o.set)).last();
                m = o.mode;
                px = q.x.times(by).n.divide(q.x.times(by).d).intValue();
                py = q.y.times(by).n.divide(q.y.times(by).d).intValue();
            }
            int n = wrap(pick(1, 30), new int[] {0, 31, -1});
            long want = -1;
            if (m >= 0 && m < t.modes.size() && isPoint(px, py, by) && n >= 1 && n <= 30) {
                Pt p = new Pt(Frac.of(px, by), Frac.of(py, by));
                want = -2;
                if (kept(t.modes.get(m), p)) {
                    ride = rideFrom(t, m, p, n);
                    want = ride.jumps();
                    tally.rides++;
                    tally.rideEnds1 += ride.end == 1 ? 1 : 0;
                    tally.rideEnds2 += ride.end == 2 ? 1 : 0;
                    tally.rideEnds3 += ride.end == 3 ? 1 : 0;
                }
            }
            due("ride(" + m + ", " + px + ", " + py + ", " + by + ", " + n + ")", x.ride(m, px, py, by, n), want);
            for (int i = 0; i < 5; i++) {
                ridden();
            }
        }

        void ridden() {
            int j = ride == null ? pick(-1, 2) : anyOf(ride.jumps() + 1);
            int what = pick(-1, 8);
            long want = Integer.MIN_VALUE;
            if (ride != null && j >= 0 && j <= ride.jumps() && what >= 0 && what <= 7) {
                Pt p = ride.points.get(j);
                Frac f = ride.times.get(j);
                long[] cells = {ride.modes.get(j), p.x.n.longValueExact(), p.x.d.longValueExact(),
                    p.y.n.longValueExact(), p.y.d.longValueExact(), ride.edges.get(j),
                    f.n.longValueExact(), f.d.longValueExact()};
                want = cells[what];
            }
            due("ridden(" + j + ", " + what + ")", x.ridden(j, what), want);
            due("ended()", x.ended(), ride == null ? -1 : ride.end);
            long all = ride == null ? -1 : 1;
            if (ride != null) {
                for (int i = 1; i <= ride.jumps(); i++) {
                    if (c.whereIs(ride.modes.get(i), ride.points.get(i)) < 0) {
                        all = 0;
                    }
                }
            }
            tally.unfollowed += all == 0 ? 1 : 0;
            due("followed()", x.followed(), all);
        }

        long told(OCheck o, int n, int what) {
            o.run(n);
            switch (what) {
                case 0: return o.parts.size();
                case 1: return o.first(false);
                case 2: return o.why;
                case 3: return o.safe() ? 1 : 0;
                default: return o.open();
            }
        }

        boolean foresight(int n, int what) {
            return n >= 1 && n <= 60 && what >= 0 && what <= 4;
        }

        int anyN() {
            return wrap(pick(1, chance(10) ? 60 : 8), new int[] {0, 61});
        }

        void ifStart() {
            int x1 = pick(-40, 40);
            int x2 = x1 + pick(0, 20);
            int y1 = pick(-40, 40);
            int y2 = y1 + pick(chance(5) ? -2 : 0, 20);
            x1 = wrap(x1, new int[] {-1000, -999});
            x2 = wrap(x2, new int[] {1000, 999});
            int n = anyN();
            int what = pick(-1, 5);
            long want = -1;
            if (foresight(n, what) && x1 >= -999 && x2 <= 999 && x1 <= x2 && y1 <= y2) {
                want = t.startMode < 0 ? -2 : told(new OCheck(t, new int[] {x1, x2, y1, y2}, t.most, -1), n, what);
            }
            due("ifStart(" + x1 + ", " + x2 + ", " + y1 + ", " + y2 + ", " + n + ", " + what + ")",
                x.ifStart(x1, x2, y1, y2, n, what), want);
        }

        void ifMost() {
            int m = pick(0, 9);
            int n = anyN();
            int what = pick(-1, 5);
            long want = -1;
            if (foresight(n, what) && m >= 1 && m <= 8) {
                want = t.startMode < 0 ? -2 : told(new OCheck(t, t.start, m, -1), n, what);
            }
            due("ifMost(" + m + ", " + n + ", " + what + ")", x.ifMost(m, n, what), want);
        }

        void ifWithout() {
            int e = anyOf(t.edges.size());
            int n = anyN();
            int what = pick(-1, 5);
            long want = -1;
            if (foresight(n, what) && e >= 0 && e < t.edges.size()) {
                want = t.startMode < 0 ? -2 : told(new OCheck(t, t.start, t.most, e), n, what);
            }
            due("ifWithout(" + e + ", " + n + ", " + what + ")", x.ifWithout(e, n, what), want);
        }

        void blamed() {
            int n = anyN();
            long want = -1;
            if (n >= 1 && n <= 60) {
                want = t.startMode < 0 ? -2 : 0;
                for (int e = 0; e < t.edges.size() && want >= 0; e++) {
                    OCheck o = new OCheck(t, t.start, t.most, e);
                    o.run(n);
                    want |= o.harmed() == 0 ? 1L << e : 0;
                }
                tally.blamed += want > 0 ? 1 : 0;
            }
            due("blamed(" + n + ")", x.blamed(n), want);
        }

        void count(int w) {
            long want = -1;
            if (w >= 0 && w <= 6) {
                want = new int[] {t.modes.size(), t.edges.size(), t.normals.size(), c.parts.size(), c.steps, t.most, taped}[w];
            }
            due("count(" + w + ")", x.count(w), want);
        }
    }

    /** Writes a text that is right, but that now and then has too much of something. */
    static final class Writer {
        final Random random;
        final StringBuilder b = new StringBuilder();
        int modes;
        int size;
        int wide;
        int[][] pool;

        Writer(Random random) {
            this.random = random;
        }

        int pick(int least, int most) {
            return least + random.nextInt(most - least + 1);
        }

        boolean chance(int percent) {
            return random.nextInt(100) < percent;
        }

        String number(int v) {
            return v < 0 && chance(10) ? "- " + -v : String.valueOf(v);
        }

        String write() {
            return chance(30) ? writeFine() : writePlain();
        }

        /** Steep slopes and odd bounds, by which fractions soon become BEYOND. */
        String writeFine() {
            modes = pick(1, 3);
            wide = 9;
            size = chance(50) ? 999 : 100;
            pool = new int[pick(3, chance(30) ? 12 : 6)][];
            for (int i = 0; i < pool.length; i++) {
                pool[i] = new int[] {pick(1, 9) * (chance(50) ? 1 : -1), pick(1, 9) * (chance(50) ? 1 : -1)};
            }
            for (int m = 0; m < modes; m++) {
                b.append("mode ").append(name(m)).append(' ').append(pick(-9, 9)).append(' ').append(pick(-9, 9)).append(';');
                int keeps = pick(0, 4);
                for (int i = 0; i < keeps; i++) {
                    b.append("keep ").append(name(m)).append(' ');
                    bound();
                }
                if (chance(40)) {
                    b.append("harm ").append(name(m)).append(' ');
                    bound();
                }
            }
            int edges = pick(1, 6);
            for (int e = 0; e < edges; e++) {
                b.append("edge ").append(name(pick(0, modes - 1))).append(' ').append(name(pick(0, modes - 1))).append(';');
                if (chance(60)) {
                    b.append("when ");
                    bound();
                }
                if (chance(25)) {
                    b.append(chance(50) ? "put " : "add ").append(chance(50) ? "x " : "y ").append(pick(-99, 99)).append(';');
                }
            }
            start();
            b.append("most ").append(pick(1, 8)).append(';');
            return b.toString();
        }

        String writePlain() {
            modes = chance(3) ? 7 : pick(1, 5);
            wide = chance(50) ? 9 : pick(1, 3);
            size = chance(20) ? 999 : chance(60) ? 100 : 20;
            pool = new int[pick(2, chance(5) ? 20 : 7)][];
            for (int i = 0; i < pool.length; i++) {
                boolean flat = chance(40);
                pool[i] = new int[] {flat && chance(50) ? 0 : pick(-wide, wide), flat ? pick(-1, 1) : pick(-wide, wide)};
                if (pool[i][0] == 0 && pool[i][1] == 0 && chance(98)) {
                    pool[i] = new int[] {-1, 0};
                }
            }
            for (int m = 0; m < modes; m++) {
                b.append("mode ").append(name(m)).append(' ').append(number(pick(-wide, wide))).append(' ')
                    .append(number(pick(-wide, wide))).append(';');
                if (chance(20)) {
                    b.append(chance(50) ? "\n" : " ");
                }
            }
            int keeps = pick(0, chance(10) ? 6 : Math.min(2 + modes, 6));
            for (int i = 0; i < keeps; i++) {
                b.append("keep ").append(name(pick(0, modes - 1))).append(' ');
                bound();
            }
            int harms = pick(0, 3);
            for (int i = 0; i < harms; i++) {
                b.append("harm ").append(name(pick(0, modes - 1))).append(' ');
                bound();
            }
            int edges = chance(3) ? 11 : pick(0, chance(50) ? 4 : 9);
            for (int e = 0; e < edges; e++) {
                edge();
            }
            if (chance(95)) {
                start();
            }
            if (chance(60)) {
                b.append("most ").append(chance(2) ? 9 : pick(1, 8)).append(';');
            }
            return b.toString();
        }

        String name(int m) {
            return new String[] {"a", "b", "c", "dd", "efghij", "z", "zz"}[m];
        }

        void bound() {
            int[] n = pool[random.nextInt(pool.length)];
            int by = chance(10) && Math.max(Math.abs(n[0]), Math.abs(n[1])) < 5 ? 2 : 1;
            if (chance(5)) {
                by = -by;
            }
            b.append(number(n[0] * by)).append(' ').append(number(n[1] * by)).append(' ');
            b.append(number(chance(80) ? pick(0, size) : pick(-size, size))).append(';');
        }

        void edge() {
            b.append("edge ").append(name(pick(0, modes - 1))).append(' ').append(name(pick(0, modes - 1))).append(';');
            int guards = pick(0, 2);
            for (int i = 0; i < guards; i++) {
                b.append("when ");
                bound();
            }
            if (chance(40)) {
                b.append(chance(50) ? "put x " : "add x ").append(number(pick(-size, size) / pick(1, 9))).append(';');
            }
            if (chance(40)) {
                b.append(chance(50) ? "put y " : "add y ").append(number(pick(-size, size) / pick(1, 9))).append(';');
            }
        }

        void start() {
            int x1 = pick(-size, size) / 4;
            int y1 = pick(-size, size) / 4;
            int w = chance(50) ? 0 : pick(0, 10);
            int h = chance(50) ? 0 : pick(0, 10);
            if (chance(15)) {
                x1 = pick(-999, 0);
                y1 = pick(-999, 0);
                w = pick(0, 999);
                h = pick(0, 999);
            }
            b.append("start ").append(name(pick(0, modes - 1))).append(' ').append(number(x1)).append(' ')
                .append(number(x1 + w)).append(' ').append(number(y1)).append(' ').append(number(y1 + h)).append(';');
        }
    }
}
