import java.util.ArrayList;
import java.util.List;
import java.util.Random;

/**
 * What the document says of runs, asked of runs themselves and not of a second checker: points that wait and jump,
 * one by one, must be where the SETS say (promises 5, 6, 11 to 17), what the SETS say must be come to by points
 * (5, 18 to 20), and a RIDE must go as its words say (21 to 24).
 * Arguments: [folder of the project] [how many texts] [first seed].
 */
public final class RunsTest {
    private static final int[][] BOX = {{1, 0, 1000}, {-1, 0, 1000}, {0, 1, 1000}, {0, -1, 1000}};
    private static final int PARTS_ASKED = 12;
    private static final int NONE_TAKEN = 99;
    private static final int MODE = 0;
    private static final int FROM = 1;
    private static final int EDGE = 2;
    private static final int DEPTH = 3;
    private static final int EXACT = 4;
    private static final int OPEN = 5;
    private static final int GONE = 6;
    private static final int HARMED = 7;
    private static int asked = 0;
    private static int wrong = 0;
    private static int runs = 0;
    private static int jumps = 0;
    private static int finished = 0;
    private static int exact = 0;
    private static int ways = 0;
    private static int rides = 0;

    private final Random random;
    private final Plan plan;
    private final int[][] parts;
    private final Bound[][][] regions;

    public static void main(String[] args) {
        int texts = args.length > 1 ? Integer.parseInt(args[1]) : 150;
        long seed = args.length > 2 ? Long.parseLong(args[2]) : 1;
        for (int i = 0; i < texts && wrong < 10; i++) {
            new RunsTest(seed + i).go();
        }
        System.out.println("finished " + finished + ", runs " + runs + ", jumps " + jumps + ", exact " + exact + ", ways " + ways
            + ", rides " + rides);
        System.out.println(asked + " asked, " + wrong + " wrong");
        boolean came = finished > 0 && jumps > 0 && exact > 0 && ways > 0 && rides > 0;
        if (wrong != 0 || !came) {
            System.exit(1);
        }
    }

    private RunsTest(long seed) {
        random = new Random(seed);
        plan = new Plan(random);
        int count = again().count(3);
        parts = new int[count][8];
        regions = new Bound[count][2][];
        for (int p = 0; p < count; p++) {
            SlopeChecker x = again();
            for (int what = 0; what < 8; what++) {
                parts[p][what] = x.part(p, what);
            }
            regions[p][0] = region(p, 0);
            regions[p][1] = region(p, 1);
        }
    }

    private void holds(int promise, String what, boolean b) {
        asked++;
        if (!b) {
            wrong++;
            System.out.println("promise " + promise + ": " + what + "; " + plan.text);
        }
    }

    private void go() {
        holds(3, "all LINES", Sentences.tell(new SlopeChecker(), plan.text) == plan.lines);
        for (int p = 0; p < parts.length && p < PARTS_ASKED; p++) {
            corners(p, 0);
            corners(p, 1);
            kept(p);
            if (parts[p][EXACT] == 1) {
                exact++;
                comesFromEntry(p);
                comesFromBefore(p);
                replayWay(p);
            }
            growsAll(p);
            leadsOn(p);
        }
        for (int i = 0; i < 10; i++) {
            runAtRandom();
            rideAtRandom();
        }
    }

    /** An object is used for 512 calls at most, so each question has a new one, in the same state. */
    private SlopeChecker again() {
        SlopeChecker x = new SlopeChecker();
        Sentences.tell(x, plan.text);
        x.step(60);
        return x;
    }

    private Bound[] region(int p, int which) {
        SlopeChecker x = again();
        Bound[] sides = new Bound[x.count(2)];
        for (int k = 0; k < sides.length; k++) {
            sides[k] = new Bound(x.normal(k, 0), x.normal(k, 1), Fraction.of(x.limit(p, which, k, 0), x.limit(p, which, k, 1)));
        }
        return sides;
    }

    // ------------------------------------------------------------------ SETS

    /** The corners are points of the SET, rising; each LIMIT is met by one; each meets two lines; and there are no more. */
    private void corners(int p, int which) {
        SlopeChecker x = again();
        Bound[] sides = regions[p][which];
        List<Point> met = new ArrayList<>();
        int count = x.part(p, which == 0 ? 9 : 8);
        for (int i = 0; i < count; i++) {
            Point at = new Point(Fraction.of(x.corner(p, which, i, 0), x.corner(p, which, i, 1)),
                Fraction.of(x.corner(p, which, i, 2), x.corner(p, which, i, 3)));
            holds(13, "a corner is in its SET: " + at, at.holds(sides));
            holds(13, "corners rise", met.isEmpty() || met.get(met.size() - 1).compareTo(at) < 0);
            met.add(at);
        }
        holds(13, "one behind the last", x.corner(p, which, count, 0) == Long.MIN_VALUE);
        List<Point> all = crossings(List.of(sides));
        holds(13, "as many as there are: " + all + " " + met, all.size() == met.size() && all.toString().equals(met.toString()));
        for (Bound side : sides) {
            boolean tight = false;
            for (Point at : met) {
                tight |= side.room(at).sign() == 0;
            }
            holds(12, "a LIMIT is met", tight);
        }
    }

    /** The corners of all that holds these bounds, found by crossing each line with each other one, rising. */
    private static List<Point> crossings(List<Bound> sides) {
        List<Point> found = new ArrayList<>();
        for (int i = 0; i < sides.size(); i++) {
            for (int j = 0; j < i; j++) {
                Point at = sides.get(i).crossing(sides.get(j));
                if (at != null && at.holds(sides.toArray(new Bound[0]))) {
                    int k = 0;
                    while (k < found.size() && found.get(k).compareTo(at) < 0) {
                        k++;
                    }
                    if (k == found.size() || found.get(k).compareTo(at) != 0) {
                        found.add(k, at);
                    }
                }
            }
        }
        return found;
    }

    private List<Point> cornersOf(int p, int which) {
        return crossings(List.of(regions[p][which]));
    }

    /** A SET has its ENTRY in it, and keeps what its MODE keeps; HARM, meets() and within() are as points say. */
    private void kept(int p) {
        SlopeChecker x = again();
        int m = parts[p][MODE];
        List<Point> points = cornersOf(p, 1);
        for (Point at : points) {
            holds(5, "a SET keeps what its MODE keeps", at.holds(plan.kept(m)));
        }
        for (Point at : cornersOf(p, 0)) {
            holds(5, "ENTRY is in SET", at.holds(regions[p][1]));
        }
        List<Bound> harmed = new ArrayList<>(List.of(regions[p][1]));
        harmed.addAll(plan.harms.get(m));
        boolean harm = !plan.harms.get(m).isEmpty() && !crossings(harmed).isEmpty();
        holds(11, "HARMED", parts[p][HARMED] == (harm ? 1 : 0));
        int k = random.nextInt(x.count(2));
        int c = random.nextInt(41) - 20;
        boolean meets = false;
        for (Point at : points) {
            meets |= new Bound(x.normal(k, 0), x.normal(k, 1), Fraction.of(c, 1)).room(at).sign() >= 0;
        }
        holds(17, "meets", x.meets(p, x.normal(k, 0), x.normal(k, 1), c) == (meets ? 1 : 0));
        int q = random.nextInt(parts.length);
        boolean within = true;
        for (Point at : points) {
            within &= at.holds(regions[q][1]);
        }
        holds(16, "within", x.within(p, q) == (within ? 1 : 0));
    }

    /** Each corner of a SET is come to from ENTRY by its SLOPES. */
    private void comesFromEntry(int p) {
        int m = parts[p][MODE];
        for (Point at : cornersOf(p, 1)) {
            Span span = new Span();
            for (Bound side : regions[p][0]) {
                span.narrow(side, at, -plan.slopeX[m], -plan.slopeY[m]);
            }
            holds(5, "a corner is come to from ENTRY: " + at, span.isThere());
        }
    }

    /** Each corner of an ENTRY is come to from the SET ahead, where the GUARD holds; of PART 0 from the start. */
    private void comesFromBefore(int p) {
        if (p == 0) {
            for (Point at : cornersOf(0, 0)) {
                holds(5, "a corner of the start", at.holds(plan.start));
            }
            return;
        }
        int e = parts[p][EDGE];
        int from = parts[p][FROM];
        List<Bound> takable = new ArrayList<>(List.of(regions[from][1]));
        takable.addAll(plan.guards.get(e));
        for (Point at : cornersOf(p, 0)) {
            List<Bound> sources = new ArrayList<>(takable);
            if (plan.done[e][0] != 1) {
                pin(sources, 1, 0, at.x.minus(Fraction.of(plan.by[e][0], 1)));
            } else {
                holds(5, "put x", at.x.is(plan.by[e][0], 1));
            }
            if (plan.done[e][1] != 1) {
                pin(sources, 0, 1, at.y.minus(Fraction.of(plan.by[e][1], 1)));
            } else {
                holds(5, "put y", at.y.is(plan.by[e][1], 1));
            }
            holds(5, "a corner of ENTRY is come to by its EDGE: " + at, !crossings(sources).isEmpty());
        }
    }

    private static void pin(List<Bound> sides, int a, int b, Fraction c) {
        sides.add(new Bound(a, b, c));
        sides.add(new Bound(-a, -b, c.times(-1)));
    }

    /** From each corner of ENTRY its SLOPES lead through the SET as far as the MODE keeps. */
    private void growsAll(int p) {
        int m = parts[p][MODE];
        for (Point at : cornersOf(p, 0)) {
            Span span = new Span();
            for (Bound side : plan.kept(m)) {
                span.narrow(side, at, plan.slopeX[m], plan.slopeY[m]);
            }
            if (span.to != null) {
                holds(5, "as far as it is kept", at.after(span.to, plan.slopeX[m], plan.slopeY[m]).holds(regions[p][1]));
            }
        }
    }

    /** All that a PART taken leads to is in SETS that aren't GONE; without points that can jump there is no PART. */
    private void leadsOn(int p) {
        if (again().check(3) != 0 || parts[p][OPEN] == 1 || parts[p][GONE] == 1) {
            return;
        }
        int m = parts[p][MODE];
        for (int e = 0; e < plan.edges; e++) {
            if (plan.from[e] == m) {
                List<Bound> takable = new ArrayList<>(List.of(regions[p][1]));
                takable.addAll(plan.guards.get(e));
                for (Bound side : plan.kept(plan.to[e])) {
                    takable.add(plan.ahead(side, e));
                }
                List<Point> sources = crossings(takable);
                for (Point at : sources) {
                    holds(5, "led on by EDGE " + e + " from " + at, isTold(plan.to[e], plan.jump(at, e)));
                }
                for (int q = 0; q < parts.length; q++) {
                    holds(5, "no PART by an EDGE that can't be taken",
                        !sources.isEmpty() || parts[q][FROM] != p || parts[q][EDGE] != e);
                }
            }
        }
    }

    private boolean isTold(int m, Point at) {
        for (int q = 0; q < parts.length; q++) {
            if (parts[q][MODE] == m && parts[q][GONE] == 0 && at.holds(regions[q][1])) {
                return true;
            }
        }
        return false;
    }

    // ------------------------------------------------------------------ runs

    private void runAtRandom() {
        SlopeChecker x = again();
        if (x.check(3) != 0 || x.check(4) != 0) {
            return;
        }
        finished++;
        Point at = plan.somewhere(random);
        int m = plan.startMode;
        if (!at.holds(plan.kept(m))) {
            return;
        }
        runs++;
        boolean safe = x.check(0) == 1;
        int first = x.check(1);
        for (int i = 0; i < 8; i++) {
            Point out = at.after(timeToWait(at, m), plan.slopeX[m], plan.slopeY[m]);
            for (Point seen : new Point[] {at, out}) {
                holds(5, "a run is told: " + seen + " in MODE " + m, isTold(m, seen));
                boolean harm = !plan.harms.get(m).isEmpty() && seen.holds(plan.harms.get(m).toArray(new Bound[0]));
                holds(6, "harm is told", !harm || !safe && first >= 0);
            }
            int e = random.nextInt(plan.edges);
            boolean taken = plan.from[e] == m && out.holds(plan.guards.get(e).toArray(new Bound[0]))
                && plan.jump(out, e).holds(plan.kept(plan.to[e]));
            at = taken ? plan.jump(out, e) : out;
            m = taken ? plan.to[e] : m;
            jumps += taken ? 1 : 0;
        }
    }

    /** Some time, or all that is kept, or just as long as it takes till a BOUND of a GUARD begins to hold. */
    private Fraction timeToWait(Point at, int m) {
        Span span = new Span();
        for (Bound side : plan.kept(m)) {
            span.narrow(side, at, plan.slopeX[m], plan.slopeY[m]);
        }
        if (span.to == null) {
            return Fraction.ZERO;
        }
        if (random.nextInt(2) == 0) {
            return span.to.times(Fraction.of(random.nextInt(9), 8));
        }
        Fraction best = Fraction.ZERO;
        for (Bound side : plan.guards.get(random.nextInt(plan.edges))) {
            Span of = new Span();
            of.narrow(side, at, plan.slopeX[m], plan.slopeY[m]);
            best = of.from.compareTo(best) > 0 && of.from.compareTo(span.to) <= 0 ? of.from : best;
        }
        return best;
    }

    // ------------------------------------------------------------------ WAYS

    private void replayWay(int p) {
        SlopeChecker x = again();
        int places = x.way(p);
        if (places < 0) {
            holds(18, "no WAY", places == -3 && x.onWay(p, 0, 0) == Integer.MIN_VALUE && x.wayTime(p, 0) == -3);
            return;
        }
        ways++;
        holds(18, "a place for each DEPTH", places == parts[p][DEPTH] + 1);
        Fraction sum = Fraction.ZERO;
        int part = p;
        for (int i = places - 1; i >= 0; i--) {
            holds(19, "PART of place " + i, x.onWay(p, i, 0) == part);
            int m = parts[part][MODE];
            Point in = pointOfWay(x, p, i, 1);
            Point out = pointOfWay(x, p, i, 5);
            Fraction time = Fraction.of(x.onWay(p, i, 9), x.onWay(p, i, 10));
            sum = sum.plus(time);
            holds(19, "IN is in ENTRY", in.holds(regions[part][0]));
            holds(19, "OUT is in SET", out.holds(regions[part][1]));
            holds(19, "TIME leads from IN to OUT", time.sign() >= 0
                && in.after(time, plan.slopeX[m], plan.slopeY[m]).compareTo(out) == 0);
            Point later = out.after(time.times(Fraction.of(9, 10)), -plan.slopeX[m], -plan.slopeY[m]);
            holds(19, "no later point is in ENTRY", time.sign() == 0 || !later.holds(regions[part][0]));
            holds(19, "OUT is the least", out.compareTo(crossings(outOfWay(x, p, i, part)).get(0)) == 0);
            part = parts[part][FROM];
        }
        holds(19, "it begins with PART 0", part == -2);
        holds(20, "TIMES together", sum.is(x.wayTime(p, 0), x.wayTime(p, 1)) || x.wayTime(p, 0) == -3);
    }

    /** What OUT of a place may be. */
    private List<Bound> outOfWay(SlopeChecker x, int p, int i, int part) {
        List<Bound> sides = new ArrayList<>(List.of(regions[part][1]));
        if (part == p) {
            if (parts[p][HARMED] == 1) {
                sides.addAll(plan.harms.get(parts[p][MODE]));
            }
            return sides;
        }
        int e = parts[x.onWay(p, i + 1, 0)][EDGE];
        Point in = pointOfWay(x, p, i + 1, 1);
        sides.addAll(plan.guards.get(e));
        if (plan.done[e][0] != 1) {
            pin(sides, 1, 0, in.x.minus(Fraction.of(plan.by[e][0], 1)));
        }
        if (plan.done[e][1] != 1) {
            pin(sides, 0, 1, in.y.minus(Fraction.of(plan.by[e][1], 1)));
        }
        return sides;
    }

    private static Point pointOfWay(SlopeChecker x, int p, int i, int what) {
        return new Point(Fraction.of(x.onWay(p, i, what), x.onWay(p, i, what + 1)),
            Fraction.of(x.onWay(p, i, what + 2), x.onWay(p, i, what + 3)));
    }

    // ------------------------------------------------------------------ RIDES

    private void rideAtRandom() {
        SlopeChecker x = again();
        int m = random.nextInt(plan.modes);
        int by = 1 + random.nextInt(3);
        int atX = random.nextInt(41) - 20;
        int atY = random.nextInt(41) - 20;
        int n = 1 + random.nextInt(8);
        Point at = new Point(Fraction.of(atX, by), Fraction.of(atY, by));
        int done = x.ride(m, atX, atY, by, n);
        if (!at.holds(plan.kept(m))) {
            holds(21, "it can't begin", done == -2 && x.ended() == -1);
            return;
        }
        rides++;
        holds(22, "as it began", pointOfRide(x, 0).compareTo(at) == 0 && x.ridden(0, 0) == m && x.ridden(0, 5) == -2);
        int mode = m;
        boolean followed = true;
        for (int j = 1; j <= done; j++) {
            int e = x.ridden(j, 5);
            Fraction time = Fraction.of(x.ridden(j, 6), x.ridden(j, 7));
            Point out = at.after(time, plan.slopeX[mode], plan.slopeY[mode]);
            holds(22, "the EDGE can be taken", plan.from[e] == mode && time.sign() >= 0 && canJump(out, e));
            holds(22, "put and added to", plan.jump(out, e).compareTo(pointOfRide(x, j)) == 0 && x.ridden(j, 0) == plan.to[e]);
            noneEarlier(at, mode, time, e);
            mode = plan.to[e];
            at = plan.jump(out, e);
            followed &= isTold(mode, at);
        }
        holds(24, "followed", x.followed() == (followed ? 1 : 0));
        holds(23, "JUMPED n times", x.ended() == 3 == (done == n));
        if (x.ended() == 1) {
            noneEarlier(at, mode, null, NONE_TAKEN);
        }
    }

    private static Point pointOfRide(SlopeChecker x, int j) {
        return new Point(Fraction.of(x.ridden(j, 1), x.ridden(j, 2)), Fraction.of(x.ridden(j, 3), x.ridden(j, 4)));
    }

    private boolean canJump(Point out, int e) {
        return out.holds(plan.guards.get(e).toArray(new Bound[0])) && out.holds(plan.kept(plan.from[e]))
            && plan.jump(out, e).holds(plan.kept(plan.to[e]));
    }

    /** No EDGE can be taken ahead of that time, and at it none of a lesser number; without a time none ever. */
    private void noneEarlier(Point at, int m, Fraction time, int taken) {
        Span span = new Span();
        for (Bound side : plan.kept(m)) {
            span.narrow(side, at, plan.slopeX[m], plan.slopeY[m]);
        }
        Fraction end = time != null ? time : span.to == null ? Fraction.ZERO : span.to;
        for (int e = 0; e < plan.edges; e++) {
            for (int i = 0; i <= 10 && plan.from[e] == m; i++) {
                boolean atEnd = i == 10;
                Point out = at.after(end.times(Fraction.of(i, 10)), plan.slopeX[m], plan.slopeY[m]);
                boolean asked = (!atEnd && (time == null || time.sign() > 0)) || atEnd && e < taken;
                holds(21, "EDGE " + e + " can't be taken earlier", !asked || !canJump(out, e));
            }
        }
    }

    // ------------------------------------------------------------------ points, bounds, texts

    private static final class Point implements Comparable<Point> {
        final Fraction x;
        final Fraction y;

        Point(Fraction x, Fraction y) {
            this.x = x;
            this.y = y;
        }

        boolean holds(Bound[] bounds) {
            for (Bound bound : bounds) {
                if (bound.room(this).sign() < 0) {
                    return false;
                }
            }
            return true;
        }

        Point after(Fraction time, int p, int q) {
            return new Point(x.plus(time.times(p)), y.plus(time.times(q)));
        }

        public int compareTo(Point other) {
            int byX = x.compareTo(other.x);
            return byX != 0 ? byX : y.compareTo(other.y);
        }

        public String toString() {
            return "(" + x + ", " + y + ")";
        }
    }

    /** a times x and b times y together are c or less. */
    private static final class Bound {
        final int a;
        final int b;
        final Fraction c;

        Bound(int a, int b, Fraction c) {
            this.a = a;
            this.b = b;
            this.c = c;
        }

        Fraction room(Point at) {
            return c.minus(at.x.times(a)).minus(at.y.times(b));
        }

        Point crossing(Bound other) {
            long turn = (long) a * other.b - (long) b * other.a;
            if (turn == 0) {
                return null;
            }
            Fraction x = c.times(other.b).minus(other.c.times(b));
            Fraction y = other.c.times(a).minus(c.times(other.a));
            return new Point(x.over(Fraction.of(turn, 1)), y.over(Fraction.of(turn, 1)));
        }
    }

    /** Times of 0 or more at which a point that goes holds bounds; `to` is null if there is no end. */
    private static final class Span {
        Fraction from = Fraction.ZERO;
        Fraction to = null;
        boolean never = false;

        void narrow(Bound bound, Point at, int p, int q) {
            int pace = bound.a * p + bound.b * q;
            Fraction room = bound.room(at);
            if (pace == 0) {
                never |= room.sign() < 0;
                return;
            }
            Fraction time = room.over(Fraction.of(pace, 1));
            if (pace > 0 && (to == null || time.compareTo(to) < 0)) {
                to = time;
            }
            if (pace < 0 && time.compareTo(from) > 0) {
                from = time;
            }
        }

        boolean isThere() {
            return !never && (to == null || from.compareTo(to) <= 0);
        }
    }

    /** A random text, and what it tells. */
    private static final class Plan {
        final int modes;
        final int[] slopeX;
        final int[] slopeY;
        final List<List<Bound>> keeps = new ArrayList<>();
        final List<List<Bound>> harms = new ArrayList<>();
        final int edges;
        final int[] from;
        final int[] to;
        final List<List<Bound>> guards = new ArrayList<>();
        final int[][] done;
        final int[][] by;
        final int startMode;
        final int[] box = new int[4];
        final Bound[] start;
        final String text;
        int lines = 0;
        private final StringBuilder told = new StringBuilder();

        Plan(Random random) {
            modes = 1 + random.nextInt(3);
            slopeX = new int[modes];
            slopeY = new int[modes];
            int steep = 1 + random.nextInt(4);
            for (int m = 0; m < modes; m++) {
                slopeX[m] = random.nextInt(2 * steep + 1) - steep;
                slopeY[m] = random.nextInt(2 * steep + 1) - steep;
                line("mode " + name(m) + " " + slopeX[m] + " " + slopeY[m]);
                keeps.add(bounds(random, "keep " + name(m), 4));
                harms.add(bounds(random, "harm " + name(m), 3));
            }
            edges = 1 + random.nextInt(4);
            from = new int[edges];
            to = new int[edges];
            done = new int[edges][2];
            by = new int[edges][2];
            for (int e = 0; e < edges; e++) {
                from[e] = random.nextInt(modes);
                to[e] = random.nextInt(modes);
                line("edge " + name(from[e]) + " " + name(to[e]));
                guards.add(bounds(random, "when", 3));
                for (int i = 0; i < 2; i++) {
                    done[e][i] = random.nextInt(3);
                    by[e][i] = done[e][i] == 0 ? 0 : random.nextInt(21) - 10;
                    if (done[e][i] != 0) {
                        line((done[e][i] == 1 ? "put " : "add ") + (i == 0 ? "x " : "y ") + by[e][i]);
                    }
                }
            }
            startMode = random.nextInt(modes);
            for (int i = 0; i < 4; i += 2) {
                box[i] = random.nextInt(21) - 10;
                box[i + 1] = box[i] + random.nextInt(4);
            }
            start = new Bound[] {new Bound(1, 0, Fraction.of(box[1], 1)), new Bound(-1, 0, Fraction.of(-box[0], 1)),
                new Bound(0, 1, Fraction.of(box[3], 1)), new Bound(0, -1, Fraction.of(-box[2], 1))};
            line("start " + name(startMode) + " " + box[0] + " " + box[1] + " " + box[2] + " " + box[3]);
            line("most " + (1 + random.nextInt(5)));
            text = told.toString();
        }

        private static String name(int m) {
            return "" + (char) ('a' + m);
        }

        private void line(String s) {
            told.append(s).append(';');
            lines++;
        }

        private List<Bound> bounds(Random random, String word, int most) {
            List<Bound> list = new ArrayList<>();
            for (int n = random.nextInt(most); n > 0 && told.length() < 700; n--) {
                int a = random.nextInt(5) - 2;
                int b = random.nextInt(5) - 2;
                if (a != 0 || b != 0) {
                    int c = random.nextInt(41) - 8;
                    line(word + " " + a + " " + b + " " + c);
                    list.add(new Bound(a, b, Fraction.of(c, 1)));
                }
            }
            return list;
        }

        /** What a MODE keeps, and -1000 .. 1000. */
        Bound[] kept(int m) {
            List<Bound> all = new ArrayList<>(keeps.get(m));
            for (int[] side : BOX) {
                all.add(new Bound(side[0], side[1], Fraction.of(side[2], 1)));
            }
            return all.toArray(new Bound[0]);
        }

        Point jump(Point at, int e) {
            Fraction x = done[e][0] == 1 ? Fraction.ZERO : at.x;
            Fraction y = done[e][1] == 1 ? Fraction.ZERO : at.y;
            return new Point(x.plus(Fraction.of(by[e][0], 1)), y.plus(Fraction.of(by[e][1], 1)));
        }

        /** What must hold ahead of an EDGE, so that this holds behind it. */
        Bound ahead(Bound side, int e) {
            Fraction c = side.c.minus(Fraction.of((long) side.a * by[e][0] + (long) side.b * by[e][1], 1));
            return new Bound(done[e][0] == 1 ? 0 : side.a, done[e][1] == 1 ? 0 : side.b, c);
        }

        Point somewhere(Random random) {
            return new Point(between(box[0], box[1], random), between(box[2], box[3], random));
        }

        private static Fraction between(int low, int high, Random random) {
            return Fraction.of(low, 1).plus(Fraction.of((long) (high - low) * random.nextInt(7), 6));
        }
    }
}
