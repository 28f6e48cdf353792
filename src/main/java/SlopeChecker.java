import java.util.NoSuchElementException;

/** A checker of runs that go at constant slopes; shared/DOC.md says what each call promises. */
public final class SlopeChecker {
    public static final int NONE = -1;

    private static final int NO_SUCH = -2;
    private static final int NO_WAY = -3;
    private static final int NO_PARTS_OF_IT = -1000;
    private static final int TAPE_ROOM = 900;
    private static final int FEED_BYTES = 20;
    private static final int MODE_ROOM = 6;
    private static final int EDGE_ROOM = 10;
    private static final int BOUND_ROOM = 4;
    private static final int HARM_ROOM = 3;
    private static final int NORMAL_ROOM = 24;
    private static final int PART_ROOM = 60;
    private static final int JUMP_ROOM = 30;
    private static final int MOST_ROOM = 8;
    private static final int USUAL_MOST = 4;
    private static final int EDGE_OF_ALL = 1000;
    private static final int WIDEST_NORMAL = 9;
    private static final int WIDEST_NUMBER = 999;
    private static final int WIDEST_POINT = 30000;
    private static final int FINEST_POINT = 30;
    private static final int PUT = 1;
    private static final int ADDED = 2;
    private static final int RIGHT = 0;
    private static final int LEFT = 1;
    private static final int UP = 2;
    private static final int DOWN = 3;
    private static final int STOPPED_BEYOND = 1;
    private static final int STOPPED_FULL = 2;

    private final byte[] tape;
    private int taped;
    private int fault;
    private int faultPlace;
    private Model model;
    private Model spare;
    private final Reader reader;
    private final Cutter cutter;
    private final Check check;
    private final Check other;
    private final Way way;
    private final Ride ride;

    public SlopeChecker() {
        tape = new byte[TAPE_ROOM];
        faultPlace = NONE;
        model = new Model();
        spare = new Model();
        reader = new Reader();
        cutter = new Cutter();
        check = new Check(model, cutter);
        other = new Check(model, cutter);
        way = new Way(cutter);
        ride = new Ride();
    }

    public int feed(int a, int b, int c, int d, int e) {
        if (taped + FEED_BYTES > TAPE_ROOM) {
            return NONE;
        }
        tapeFour(a);
        tapeFour(b);
        tapeFour(c);
        tapeFour(d);
        tapeFour(e);
        return taped;
    }

    public int text(int n) {
        if (n < 0 || n > taped) {
            return NO_SUCH;
        }
        taped = 0;
        reader.read(tape, n, spare);
        fault = reader.fault;
        faultPlace = reader.faultPlace;
        if (fault != 0) {
            return NONE;
        }
        Model told = spare;
        spare = model;
        model = told;
        check.take(model);
        check.restart();
        ride.told = false;
        return reader.lines;
    }

    public int fault(int what) {
        switch (what) {
            case 0: return fault;
            case 1: return faultPlace;
            default: return NONE;
        }
    }

    public int step(int n) {
        if (!isStepCount(n)) {
            return NONE;
        }
        return check.run(n, false);
    }

    public int check(int what) {
        switch (what) {
            case 0: return bit(check.isSafe());
            case 1: return check.firstHarmed(false);
            case 2: return check.firstHarmed(true);
            case 3: return check.why;
            case 4: return check.openParts();
            case 5: return check.goneParts();
            case 6: return check.harmedParts();
            case 7: return check.covered;
            case 8: return check.joined;
            default: return NONE;
        }
    }

    public int mode(int m, int what) throws IndexOutOfBoundsException, NoSuchElementException {
        if (!isMode(m)) {
            throw new IndexOutOfBoundsException("no such MODE");
        }
        switch (what) {
            case 0: return model.slopeX[m];
            case 1: return model.slopeY[m];
            case 2: return model.keeps[m].size;
            case 3: return model.harms[m].size;
            case 4: return model.edgesFrom(m);
            case 5: return check.partsOf(m);
            default: throw new NoSuchElementException("no such what");
        }
    }

    public int edge(int e, int what) {
        if (!isEdge(e)) {
            return NO_PARTS_OF_IT;
        }
        switch (what) {
            case 0: return model.from[e];
            case 1: return model.to[e];
            case 2: return model.guards[e].size;
            case 3: return model.done[2 * e];
            case 4: return model.by[2 * e];
            case 5: return model.done[2 * e + 1];
            case 6: return model.by[2 * e + 1];
            default: return NO_PARTS_OF_IT;
        }
    }

    public int normal(int k, int what) {
        if (!isNormal(k)) {
            return NO_PARTS_OF_IT;
        }
        switch (what) {
            case 0: return model.normals.a[k];
            case 1: return model.normals.b[k];
            default: return NO_PARTS_OF_IT;
        }
    }

    public int normalOf(int a, int b) {
        int k = model.normals.find(a, b);
        return k < 0 ? NO_SUCH : k;
    }

    public int part(int p, int what) {
        if (!isPart(p)) {
            return NONE;
        }
        Part part = check.parts[p];
        switch (what) {
            case 0: return part.mode;
            case 1: return part.from;
            case 2: return part.edge;
            case 3: return part.depth;
            case 4: return bit(part.exact);
            case 5: return bit(part.open);
            case 6: return bit(part.gone);
            case 7: return bit(part.harmed);
            case 8: return cutter.listCorners(model.normals, part.set);
            case 9: return cutter.listCorners(model.normals, part.entry);
            default: return NONE;
        }
    }

    public int limit(int p, int which, int k, int what) {
        if (!isPart(p) || !isChoice(which) || !isNormal(k) || !isChoice(what)) {
            return Integer.MIN_VALUE;
        }
        Region region = regionOf(p, which);
        return what == 0 ? region.above[k] : region.below[k];
    }

    public long corner(int p, int which, int i, int what) {
        if (!isPart(p) || !isChoice(which) || i < 0) {
            return Long.MIN_VALUE;
        }
        int corners = cutter.listCorners(model.normals, regionOf(p, which));
        if (i >= corners) {
            return Long.MIN_VALUE;
        }
        switch (what) {
            case 0: return cutter.cornerX[i].above;
            case 1: return cutter.cornerX[i].below;
            case 2: return cutter.cornerY[i].above;
            case 3: return cutter.cornerY[i].below;
            default: return Long.MIN_VALUE;
        }
    }

    public int has(int p, int which, int x, int y, int n) {
        if (!isPart(p) || !isChoice(which) || !isPoint(x, y, n)) {
            return NONE;
        }
        return bit(regionOf(p, which).holds(model.normals, x, n, y, n));
    }

    public int where(int m, int x, int y, int n) {
        if (!isMode(m) || !isPoint(x, y, n)) {
            return NONE;
        }
        return check.firstWith(m, x, n, y, n);
    }

    public int within(int p, int q) {
        if (!isPart(p) || !isPart(q)) {
            return NONE;
        }
        return bit(check.parts[p].set.liesIn(check.parts[q].set, model.normals.size));
    }

    public int meets(int p, int a, int b, int c) {
        if (!isPart(p) || !isBound(a, b, c)) {
            return NONE;
        }
        int shared = (int) Ratio.divisor(a, b);
        if (shared == 0) {
            return NONE;
        }
        int k = model.normals.find(a / shared, b / shared);
        if (k < 0) {
            return NO_SUCH;
        }
        cutter.load(model.normals, check.parts[p].set);
        cutter.cutAt(k, c, shared);
        return bit(cutter.shrink());
    }

    public int way(int p) {
        int why = noWay(p);
        return why < 0 ? why : way.places;
    }

    public int onWay(int p, int i, int what) {
        if (i < 0 || what < 0 || what >= Way.CELLS || noWay(p) < 0 || i >= way.places) {
            return Integer.MIN_VALUE;
        }
        return way.cells[i * Way.CELLS + what];
    }

    public long wayTime(int p, int what) {
        if (!isChoice(what)) {
            return NONE;
        }
        int why = noWay(p);
        if (why < 0) {
            return why;
        }
        if (!way.addTimes()) {
            return NO_WAY;
        }
        return what == 0 ? way.time.above : way.time.below;
    }

    public int ride(int m, int x, int y, int by, int n) {
        if (!isMode(m) || !isPoint(x, y, by) || n < 1 || n > JUMP_ROOM) {
            return NONE;
        }
        if (!ride.canBegin(model.keeps[m], x, y, by)) {
            return NO_SUCH;
        }
        ride.x.let(x, by);
        ride.y.let(y, by);
        ride.go(model, m, n);
        return ride.jumps;
    }

    public int ridden(int j, int what) {
        if (!ride.told || j < 0 || j > ride.jumps || what < 0 || what >= Ride.CELLS) {
            return Integer.MIN_VALUE;
        }
        return ride.cells[j * Ride.CELLS + what];
    }

    public int ended() {
        return ride.told ? ride.end : NONE;
    }

    public int followed() {
        if (!ride.told) {
            return NONE;
        }
        for (int j = 1; j <= ride.jumps; j++) {
            int at = j * Ride.CELLS;
            int m = ride.cells[at];
            int[] cells = ride.cells;
            if (check.firstWith(m, cells[at + 1], cells[at + 2], cells[at + 3], cells[at + 4]) < 0) {
                return 0;
            }
        }
        return 1;
    }

    public int ifStart(int x1, int x2, int y1, int y2, int n, int what) {
        if (!isSpan(x1, x2) || !isSpan(y1, y2) || !isForesight(n, what)) {
            return NONE;
        }
        other.take(model);
        other.start[0] = x1;
        other.start[1] = x2;
        other.start[2] = y1;
        other.start[3] = y2;
        return foresee(n, what);
    }

    public int ifMost(int m, int n, int what) {
        if (m < 1 || m > MOST_ROOM || !isForesight(n, what)) {
            return NONE;
        }
        other.take(model);
        other.most = m;
        return foresee(n, what);
    }

    public int ifWithout(int e, int n, int what) {
        if (!isEdge(e) || !isForesight(n, what)) {
            return NONE;
        }
        other.take(model);
        other.without = e;
        return foresee(n, what);
    }

    public int blamed(int n) {
        if (!isStepCount(n)) {
            return NONE;
        }
        if (model.startMode < 0) {
            return NO_SUCH;
        }
        int bits = 0;
        for (int e = 0; e < model.edges; e++) {
            other.take(model);
            other.without = e;
            other.restart();
            other.run(n, true);
            if (other.firstHarmed(false) < 0) {
                bits |= 1 << e;
            }
        }
        return bits;
    }

    public int count(int what) {
        switch (what) {
            case 0: return model.modes;
            case 1: return model.edges;
            case 2: return model.normals.size;
            case 3: return check.size;
            case 4: return check.steps;
            case 5: return model.most;
            case 6: return taped;
            default: return NONE;
        }
    }

    private void tapeFour(int four) {
        for (int shift = 24; shift >= 0 && taped < tape.length; shift -= 8) {
            tape[taped] = (byte) (four >> shift);
            taped++;
        }
    }

    private static int bit(boolean holds) {
        return holds ? 1 : 0;
    }

    private boolean isMode(int m) {
        return m >= 0 && m < model.modes;
    }

    private boolean isEdge(int e) {
        return e >= 0 && e < model.edges;
    }

    private boolean isNormal(int k) {
        return k >= 0 && k < model.normals.size;
    }

    private boolean isPart(int p) {
        return p >= 0 && p < check.size;
    }

    private static boolean isChoice(int which) {
        return which == 0 || which == 1;
    }

    private static boolean isWithin(int x, int most) {
        return x >= -most && x <= most;
    }

    private static boolean isPoint(int x, int y, int n) {
        return isWithin(x, WIDEST_POINT) && isWithin(y, WIDEST_POINT) && n >= 1 && n <= FINEST_POINT;
    }

    private static boolean isBound(int a, int b, int c) {
        return isWithin(a, WIDEST_NORMAL) && isWithin(b, WIDEST_NORMAL) && (a != 0 || b != 0)
            && isWithin(c, WIDEST_NUMBER);
    }

    private static boolean isSpan(int from, int to) {
        return isWithin(from, WIDEST_NUMBER) && isWithin(to, WIDEST_NUMBER) && from <= to;
    }

    private static boolean isStepCount(int n) {
        return n >= 1 && n <= PART_ROOM;
    }

    private static boolean isForesight(int n, int what) {
        return isStepCount(n) && what >= 0 && what <= 4;
    }

    private Region regionOf(int p, int which) {
        return which == 0 ? check.parts[p].entry : check.parts[p].set;
    }

    /** 0, and the WAY is found; else which answer says that there is none. */
    private int noWay(int p) {
        if (!isPart(p)) {
            return NONE;
        }
        if (!check.parts[p].exact) {
            return NO_SUCH;
        }
        return way.find(check, p) ? 0 : NO_WAY;
    }

    private int foresee(int n, int what) {
        if (model.startMode < 0) {
            return NO_SUCH;
        }
        other.restart();
        other.run(n, false);
        switch (what) {
            case 0: return other.size;
            case 1: return other.firstHarmed(false);
            case 2: return other.why;
            case 3: return bit(other.isSafe());
            default: return other.openParts();
        }
    }

    /** A fraction in lowest terms; what is below stays above 0. */
    private static final class Ratio {
        private static final int MOST_ABOVE = 3000000;
        private static final int MOST_BELOW = 3000;

        long above;
        long below;

        Ratio() {
            below = 1;
        }

        void let(long n, long d) {
            long shared = divisor(n, d);
            if (d == 0 || shared == 0) {
                above = 0;
                below = 1;
                return;
            }
            if (d < 0) {
                shared = -shared;
            }
            above = n / shared;
            below = d / shared;
        }

        boolean isBeyond() {
            return isTooFine(above, below);
        }

        static boolean isTooFine(long n, long d) {
            return n > MOST_ABOVE || n < -MOST_ABOVE || d > MOST_BELOW;
        }

        /** What divides both most; the steps of Euclid for two longs are fewer than 128. */
        static long divisor(long n, long d) {
            long x = n < 0 ? -n : n;
            long y = d < 0 ? -d : d;
            for (int i = 0; i < 128 && y != 0; i++) {
                long rest = x % y;
                x = y;
                y = rest;
            }
            return x;
        }

        /** Whole parts go first, as the products of what is above would not fit into a long. */
        static int order(long n, long d, long otherN, long otherD) {
            if (d <= 0 || otherD <= 0) {
                return 0;
            }
            int whole = Long.compare(Math.floorDiv(n, d), Math.floorDiv(otherN, otherD));
            if (whole != 0) {
                return whole;
            }
            return Long.compare(Math.floorMod(n, d) * otherD, Math.floorMod(otherN, otherD) * d);
        }
    }

    /**
     * The NORMALS by number, and a ring of them by angle. As the first four are always there,
     * from one to the next on the ring is a quarter of a turn at most.
     */
    private static final class Normals {
        final int[] a;
        final int[] b;
        final int[] after;
        int size;

        Normals() {
            a = new int[NORMAL_ROOM];
            b = new int[NORMAL_ROOM];
            after = new int[NORMAL_ROOM];
            clear();
        }

        void clear() {
            size = 0;
            set(RIGHT, 1, 0, UP);
            set(LEFT, -1, 0, DOWN);
            set(UP, 0, 1, LEFT);
            set(DOWN, 0, -1, RIGHT);
        }

        private void set(int k, int x, int y, int next) {
            a[k] = x;
            b[k] = y;
            after[k] = next;
            size++;
        }

        int find(int x, int y) {
            for (int k = 0; k < size; k++) {
                if (a[k] == x && b[k] == y) {
                    return k;
                }
            }
            return NONE;
        }

        /** The number of a NORMAL, which is added if it is new; NONE if it would be one too many. */
        int number(int x, int y) {
            int k = find(x, y);
            if (k >= 0 || size >= NORMAL_ROOM) {
                return k;
            }
            int before = RIGHT;
            for (int i = 0; i < size; i++) {
                int next = after[before];
                if (a[before] * y > b[before] * x && x * b[next] > y * a[next]) {
                    break;
                }
                before = next;
            }
            int fresh = size;
            set(fresh, x, y, after[before]);
            after[before] = fresh;
            return fresh;
        }

        /** Above 0, if the shorter way from one to the other turns to the left. */
        long turn(int k, int to) {
            return (long) a[k] * b[to] - (long) a[to] * b[k];
        }
    }

    /** BOUNDS that belong to one MODE or EDGE, each as told and as a LIMIT of its NORMAL. */
    private static final class Bounds {
        final int[] a;
        final int[] b;
        final int[] c;
        final int[] normal;
        final int[] shared;
        int size;

        Bounds() {
            a = new int[BOUND_ROOM];
            b = new int[BOUND_ROOM];
            c = new int[BOUND_ROOM];
            normal = new int[BOUND_ROOM];
            shared = new int[BOUND_ROOM];
        }
    }

    /** What a TEXT tells. */
    private static final class Model {
        final Normals normals;
        final int[] names;
        final int[] slopeX;
        final int[] slopeY;
        final Bounds[] keeps;
        final Bounds[] harms;
        final int[] from;
        final int[] to;
        final Bounds[] guards;
        final int[] done;
        final int[] by;
        final int[] start;
        int modes;
        int edges;
        int startMode;
        int most;

        Model() {
            normals = new Normals();
            names = new int[MODE_ROOM];
            slopeX = new int[MODE_ROOM];
            slopeY = new int[MODE_ROOM];
            keeps = new Bounds[MODE_ROOM];
            harms = new Bounds[MODE_ROOM];
            for (int m = 0; m < MODE_ROOM; m++) {
                keeps[m] = new Bounds();
                harms[m] = new Bounds();
            }
            from = new int[EDGE_ROOM];
            to = new int[EDGE_ROOM];
            guards = new Bounds[EDGE_ROOM];
            for (int e = 0; e < EDGE_ROOM; e++) {
                guards[e] = new Bounds();
            }
            done = new int[2 * EDGE_ROOM];
            by = new int[2 * EDGE_ROOM];
            start = new int[4];
            clear();
        }

        void clear() {
            normals.clear();
            modes = 0;
            edges = 0;
            startMode = NONE;
            most = USUAL_MOST;
        }

        int modeOf(int name) {
            for (int m = 0; m < modes; m++) {
                if (names[m] == name) {
                    return m;
                }
            }
            return NONE;
        }

        int edgesFrom(int m) {
            int count = 0;
            for (int e = 0; e < edges; e++) {
                if (from[e] == m) {
                    count++;
                }
            }
            return count;
        }

        void addMode(int name, int p, int q) {
            names[modes] = name;
            slopeX[modes] = p;
            slopeY[modes] = q;
            keeps[modes].size = 0;
            harms[modes].size = 0;
            modes++;
        }

        void addEdge(int source, int target) {
            from[edges] = source;
            to[edges] = target;
            guards[edges].size = 0;
            for (int size = 0; size < 2; size++) {
                done[2 * edges + size] = 0;
                by[2 * edges + size] = 0;
            }
            edges++;
        }
    }

    /**
     * Reads a TEXT into a Model. The first FAULT stays, and behind it nothing more is read,
     * so that its methods need not ask after each TOKEN whether to go on.
     */
    private static final class Reader {
        private static final String LANGUAGE = "mode keep harm edge when put add start most x y ";
        private static final int WORDS = 11;
        private static final int MODE = 0;
        private static final int KEEP = 1;
        private static final int HARM = 2;
        private static final int EDGE = 3;
        private static final int WHEN = 4;
        private static final int PUT_WORD = 5;
        private static final int ADD_WORD = 6;
        private static final int START = 7;
        private static final int MOST = 8;
        private static final int X_WORD = 9;
        private static final int Y_WORD = 10;

        private static final int END_TOKEN = 0;
        private static final int WORD_TOKEN = 1;
        private static final int DIGITS_TOKEN = 2;
        private static final int MINUS_TOKEN = 3;
        private static final int SEMICOLON_TOKEN = 4;
        private static final int NO_TOKEN = 5;

        private static final int CANT_STAND = 1;
        private static final int TOO_MUCH = 2;
        private static final int TOLD_ALREADY = 3;

        private static final int WORD_LENGTH = 6;
        private static final int LETTERS = 27;
        private static final int AHEAD_OF_A = 'a' - 1;
        private static final int FAR_TOO_MUCH = 1000000;

        private final int[] language;
        private byte[] bytes;
        private int length;
        private int at;
        private int token;
        private int place;
        private int word;
        private int digits;
        private int linePlace;
        private int numberPlace;
        private boolean mostTold;
        private Model model;
        int lines;
        int fault;
        int faultPlace;

        Reader() {
            language = new int[WORDS];
            int w = 0;
            for (int i = 0; i < LANGUAGE.length() && w < WORDS; i++) {
                char c = LANGUAGE.charAt(i);
                if (c == ' ') {
                    w++;
                } else {
                    language[w] = language[w] * LETTERS + c - AHEAD_OF_A;
                }
            }
        }

        void read(byte[] tape, int n, Model into) {
            bytes = tape;
            length = Math.min(n, tape.length);
            at = 0;
            lines = 0;
            fault = 0;
            faultPlace = NONE;
            mostTold = false;
            model = into;
            model.clear();
            nextToken();
            for (int i = 0; i < TAPE_ROOM && fault == 0 && token != END_TOKEN; i++) {
                readLine();
                nextToken();
            }
        }

        private void readLine() {
            linePlace = place;
            switch (token == WORD_TOKEN ? wordOfLanguage() : NONE) {
                case MODE: readMode(); break;
                case KEEP: readKeep(); break;
                case HARM: readHarm(); break;
                case EDGE: readEdge(); break;
                case WHEN: readWhen(); break;
                case PUT_WORD: readDone(PUT); break;
                case ADD_WORD: readDone(ADDED); break;
                case START: readStart(); break;
                case MOST: readMost(); break;
                default: fail(CANT_STAND, place); break;
            }
            nextToken();
            failUnless(token == SEMICOLON_TOKEN, CANT_STAND, place);
            lines++;
        }

        private void readMode() {
            failUnless(model.modes < MODE_ROOM, TOO_MUCH, linePlace);
            nextToken();
            failUnless(token == WORD_TOKEN && word > 0 && wordOfLanguage() < 0, CANT_STAND, place);
            failUnless(model.modeOf(word) < 0, TOLD_ALREADY, place);
            int name = word;
            int p = readNumber(-WIDEST_NORMAL, WIDEST_NORMAL);
            int q = readNumber(-WIDEST_NORMAL, WIDEST_NORMAL);
            if (fault == 0 && (p != 0 || q != 0)) {
                readNormal(-q, p);
                readNormal(q, -p);
            }
            if (fault == 0) {
                model.addMode(name, p, q);
            }
        }

        private void readKeep() {
            int m = readModeName();
            if (m >= 0) {
                readBound(model.keeps[m], BOUND_ROOM);
            }
        }

        private void readHarm() {
            int m = readModeName();
            if (m >= 0) {
                readBound(model.harms[m], HARM_ROOM);
            }
        }

        private void readEdge() {
            failUnless(model.edges < EDGE_ROOM, TOO_MUCH, linePlace);
            int source = readModeName();
            int target = readModeName();
            if (fault == 0) {
                model.addEdge(source, target);
            }
        }

        private void readWhen() {
            int e = model.edges - 1;
            failUnless(e >= 0, CANT_STAND, linePlace);
            if (fault == 0) {
                readBound(model.guards[e], BOUND_ROOM);
            }
        }

        private void readDone(int kind) {
            int e = model.edges - 1;
            failUnless(e >= 0, CANT_STAND, linePlace);
            nextToken();
            int named = token == WORD_TOKEN ? wordOfLanguage() : NONE;
            failUnless(named == X_WORD || named == Y_WORD, CANT_STAND, place);
            if (fault != 0) {
                return;
            }
            int slot = 2 * e + (named == Y_WORD ? 1 : 0);
            failUnless(model.done[slot] == 0, TOLD_ALREADY, linePlace);
            int n = readNumber(-WIDEST_NUMBER, WIDEST_NUMBER);
            if (fault == 0) {
                model.done[slot] = kind;
                model.by[slot] = n;
            }
        }

        private void readStart() {
            failUnless(model.startMode < 0, TOLD_ALREADY, linePlace);
            int m = readModeName();
            for (int i = 0; i < 4 && fault == 0; i++) {
                boolean isTo = i == 1 || i == 3;
                int least = isTo ? model.start[i - 1] : -WIDEST_NUMBER;
                model.start[i] = readNumber(least, WIDEST_NUMBER);
            }
            if (fault == 0) {
                model.startMode = m;
            }
        }

        private void readMost() {
            failUnless(!mostTold, TOLD_ALREADY, linePlace);
            int n = readNumber(1, MOST_ROOM);
            if (fault == 0) {
                model.most = n;
                mostTold = true;
            }
        }

        private void readBound(Bounds bounds, int room) {
            int i = bounds.size;
            failUnless(i < room && i < BOUND_ROOM, TOO_MUCH, linePlace);
            int a = readNumber(-WIDEST_NORMAL, WIDEST_NORMAL);
            int b = readNumber(-WIDEST_NORMAL, WIDEST_NORMAL);
            failUnless(a != 0 || b != 0, TOO_MUCH, numberPlace);
            if (fault != 0) {
                return;
            }
            int k = readNormal(a, b);
            int c = readNumber(-WIDEST_NUMBER, WIDEST_NUMBER);
            if (fault == 0) {
                bounds.a[i] = a;
                bounds.b[i] = b;
                bounds.c[i] = c;
                bounds.normal[i] = k;
                bounds.shared[i] = (int) Ratio.divisor(a, b);
                bounds.size++;
            }
        }

        private int readNormal(int a, int b) {
            int shared = (int) Ratio.divisor(a, b);
            int k = shared == 0 ? NONE : model.normals.number(a / shared, b / shared);
            failUnless(k >= 0, TOO_MUCH, linePlace);
            return k;
        }

        private int readModeName() {
            nextToken();
            int m = token == WORD_TOKEN ? model.modeOf(word) : NONE;
            failUnless(m >= 0, CANT_STAND, place);
            return fault == 0 ? m : NONE;
        }

        private int readNumber(int least, int most) {
            nextToken();
            int begin = place;
            boolean minus = token == MINUS_TOKEN;
            if (minus) {
                nextToken();
            }
            failUnless(token == DIGITS_TOKEN, CANT_STAND, place);
            int n = minus ? -digits : digits;
            failUnless(n >= least && n <= most, TOO_MUCH, begin);
            numberPlace = begin;
            return n;
        }

        private void failUnless(boolean holds, int kind, int where) {
            if (!holds) {
                fail(kind, where);
            }
        }

        private void fail(int kind, int where) {
            if (fault == 0) {
                fault = kind;
                faultPlace = where;
            }
        }

        private int wordOfLanguage() {
            for (int w = 0; w < WORDS; w++) {
                if (language[w] == word) {
                    return w;
                }
            }
            return NONE;
        }

        private void nextToken() {
            if (fault != 0) {
                return;
            }
            while (at < length && (bytes[at] == 10 || bytes[at] == 32)) {
                at++;
            }
            place = at;
            int c = at < length ? bytes[at] : NONE;
            if (at >= length) {
                token = END_TOKEN;
            } else if (c >= 'a' && c <= 'z') {
                takeWord();
            } else if (c >= '0' && c <= '9') {
                takeDigits();
            } else {
                token = c == '-' ? MINUS_TOKEN : c == ';' ? SEMICOLON_TOKEN : NO_TOKEN;
                at++;
            }
        }

        /** A word that is too long becomes 0, which no name and no word of the language is. */
        private void takeWord() {
            token = WORD_TOKEN;
            word = 0;
            while (at < length && bytes[at] >= 'a' && bytes[at] <= 'z') {
                if (at - place < WORD_LENGTH) {
                    word = word * LETTERS + bytes[at] - AHEAD_OF_A;
                }
                at++;
            }
            if (at - place > WORD_LENGTH) {
                word = 0;
            }
        }

        /** No number that may stand in a TEXT is so great that it matters where the counting ends. */
        private void takeDigits() {
            token = DIGITS_TOKEN;
            digits = 0;
            while (at < length && bytes[at] >= '0' && bytes[at] <= '9') {
                if (digits < FAR_TOO_MUCH) {
                    digits = digits * 10 + bytes[at] - '0';
                }
                at++;
            }
        }
    }

    /** A SET: a TIGHT LIMIT for each NORMAL, none of them BEYOND, so that ints hold them. */
    private static final class Region {
        final int[] above;
        final int[] below;

        Region() {
            above = new int[NORMAL_ROOM];
            below = new int[NORMAL_ROOM];
        }

        boolean liesIn(Region wide, int normals) {
            for (int k = 0; k < normals; k++) {
                if ((long) above[k] * wide.below[k] > (long) wide.above[k] * below[k]) {
                    return false;
                }
            }
            return true;
        }

        boolean holds(Normals normals, long x, long xBelow, long y, long yBelow) {
            for (int k = 0; k < normals.size; k++) {
                long reach = normals.a[k] * x * yBelow + normals.b[k] * y * xBelow;
                if (reach * below[k] > above[k] * xBelow * yBelow) {
                    return false;
                }
            }
            return true;
        }
    }

    /**
     * The bench on which SETS are cut and grown: a LIMIT for each NORMAL (with 0 below: none),
     * not TIGHT until shrink() and settle(). Limits on it stay so small that longs hold all products:
     * above 90,000,000, below 3000, and 162 is the most that turn() answers.
     */
    private static final class Cutter {
        final Ratio[] cornerX;
        final Ratio[] cornerY;
        private final long[] above;
        private final long[] below;
        private final int[] next;
        private final int[] back;
        private Normals normals;
        private int first;
        private int live;

        Cutter() {
            above = new long[NORMAL_ROOM];
            below = new long[NORMAL_ROOM];
            next = new int[NORMAL_ROOM];
            back = new int[NORMAL_ROOM];
            cornerX = new Ratio[NORMAL_ROOM + 1];
            cornerY = new Ratio[NORMAL_ROOM + 1];
            for (int i = 0; i <= NORMAL_ROOM; i++) {
                cornerX[i] = new Ratio();
                cornerY[i] = new Ratio();
            }
            normals = new Normals();
        }

        void load(Normals of, Region region) {
            normals = of;
            for (int k = 0; k < normals.size; k++) {
                above[k] = region.above[k];
                below[k] = region.below[k];
            }
        }

        void loadBox(Normals of, int[] box) {
            normals = of;
            for (int k = 0; k < normals.size; k++) {
                long a = normals.a[k];
                long b = normals.b[k];
                above[k] = a * box[a > 0 ? 1 : 0] + b * box[b > 0 ? 3 : 2];
                below[k] = 1;
            }
        }

        /** What a region becomes by what an EDGE puts and adds. */
        void loadMoved(Model model, int e, Region region) {
            normals = model.normals;
            boolean putsX = model.done[2 * e] == PUT;
            boolean putsY = model.done[2 * e + 1] == PUT;
            for (int k = 0; k < normals.size; k++) {
                long a = normals.a[k];
                long b = normals.b[k];
                int side = putsX ? (b > 0 ? UP : DOWN) : putsY ? (a > 0 ? RIGHT : LEFT) : k;
                long times = putsX && putsY ? 0 : putsX ? Math.abs(b) : putsY ? Math.abs(a) : 1;
                long shift = a * model.by[2 * e] + b * model.by[2 * e + 1];
                above[k] = times * region.above[side] + shift * region.below[side];
                below[k] = region.below[side];
            }
        }

        void join(Region region) {
            for (int k = 0; k < normals.size; k++) {
                if (region.above[k] * below[k] > above[k] * region.below[k]) {
                    above[k] = region.above[k];
                    below[k] = region.below[k];
                }
            }
        }

        void cutAt(int k, long c, long d) {
            if (below[k] == 0 || c * below[k] < above[k] * d) {
                above[k] = c;
                below[k] = d;
            }
        }

        void cut(Bounds bounds) {
            for (int i = 0; i < bounds.size; i++) {
                cutAt(bounds.normal[i], bounds.c[i], bounds.shared[i]);
            }
        }

        void cutToBox() {
            for (int k = 0; k < 4; k++) {
                cutAt(k, EDGE_OF_ALL, 1);
            }
        }

        /** Drops the LIMITS that growing along the slopes leaves behind; those across them are NORMALS, too. */
        void growAlong(long p, long q) {
            for (int k = 0; k < normals.size; k++) {
                if (normals.a[k] * p + normals.b[k] * q > 0) {
                    above[k] = 0;
                    below[k] = 0;
                }
            }
        }

        /**
         * Whether there are points. Leaves on the ring only those LIMITS that are TIGHT by themselves:
         * one whose side would have a length below 0 is told by its neighbours, or, where these are
         * half a turn apart or more, no point holds all three.
         */
        boolean shrink() {
            linkRing();
            int k = first;
            int sure = 0;
            for (int i = 0; i < NORMAL_ROOM * (NORMAL_ROOM + 1) && sure < live; i++) {
                int p = back[k];
                int q = next[k];
                long across = normals.turn(p, q);
                long side = normals.turn(k, q) * above[p] * below[q] * below[k]
                    + normals.turn(p, k) * above[q] * below[p] * below[k]
                    - across * above[k] * below[p] * below[q];
                if (side >= 0) {
                    sure++;
                    k = q;
                } else if (across <= 0) {
                    return false;
                } else {
                    next[p] = q;
                    back[q] = p;
                    live--;
                    sure = 0;
                    k = p;
                    first = p;
                }
            }
            return true;
        }

        private void linkRing() {
            int last = RIGHT;
            live = 1;
            int k = normals.after[RIGHT];
            for (int i = 0; i < normals.size && k != RIGHT; i++) {
                if (below[k] != 0) {
                    next[last] = k;
                    back[k] = last;
                    last = k;
                    live++;
                }
                k = normals.after[k];
            }
            next[last] = RIGHT;
            back[RIGHT] = last;
            first = RIGHT;
        }

        /** Behind shrink(): tells the TIGHT LIMITS; false if one is BEYOND. */
        boolean settle(Region region) {
            int p = first;
            int q = next[p];
            int k = p;
            for (int i = 0; i < normals.size; i++) {
                if (k == q) {
                    p = q;
                    q = next[p];
                }
                long n = above[k];
                long d = below[k];
                if (k != p) {
                    n = normals.turn(k, q) * above[p] * below[q] + normals.turn(p, k) * above[q] * below[p];
                    d = normals.turn(p, q) * below[p] * below[q];
                }
                long shared = d == 1 ? 1 : Ratio.divisor(n, d);
                if (shared == 0 || Ratio.isTooFine(n / shared, d / shared)) {
                    return false;
                }
                region.above[k] = (int) (n / shared);
                region.below[k] = (int) (d / shared);
                k = normals.after[k];
            }
            return true;
        }

        /** Where the lines of two LIMITS meet. */
        private void meet(int p, int q, Ratio x, Ratio y) {
            long d = normals.turn(p, q) * below[p] * below[q];
            x.let(above[p] * below[q] * normals.b[q] - above[q] * below[p] * normals.b[p], d);
            y.let(above[q] * below[p] * normals.a[p] - above[p] * below[q] * normals.a[q], d);
        }

        /** Behind shrink(): the point of the least x, of these of the least y. */
        void least(Ratio x, Ratio y) {
            int p = first;
            for (int i = 0; i < live; i++) {
                int q = next[p];
                if (p == LEFT || normals.turn(p, LEFT) > 0 && normals.turn(LEFT, q) > 0) {
                    meet(p, q, x, y);
                    return;
                }
                p = q;
            }
        }

        /** The least x among points with that y. */
        void leastX(Ratio x, Ratio y) {
            leastOf(normals.a, x, normals.b, y);
        }

        /** The least y among points with that x. */
        void leastY(Ratio x, Ratio y) {
            leastOf(normals.b, y, normals.a, x);
        }

        private void leastOf(int[] parts, Ratio sought, int[] otherParts, Ratio given) {
            long bestN = 0;
            long bestD = 0;
            for (int k = 0; k < normals.size; k++) {
                if (parts[k] < 0 && below[k] != 0) {
                    long n = otherParts[k] * given.above * below[k] - above[k] * given.below;
                    long d = -parts[k] * below[k];
                    if (bestD == 0 || Ratio.order(n, d, bestN, bestD) > 0) {
                        bestN = n;
                        bestD = d;
                    }
                }
            }
            sought.let(bestN, bestD * given.below);
        }

        /** Lists the corners of a SET; consecutive NORMALS on the ring meet in one, each corner is met so. */
        int listCorners(Normals of, Region region) {
            load(of, region);
            int corners = 0;
            for (int k = 0; k < normals.size; k++) {
                meet(k, normals.after[k], cornerX[corners], cornerY[corners]);
                if (isNewCorner(corners)) {
                    sinkCorner(corners);
                    corners++;
                }
            }
            return corners;
        }

        private boolean isNewCorner(int fresh) {
            for (int i = 0; i < fresh; i++) {
                if (orderOfCorners(i, fresh) == 0) {
                    return false;
                }
            }
            return true;
        }

        private void sinkCorner(int fresh) {
            for (int i = fresh; i > 0 && orderOfCorners(i, i - 1) < 0; i--) {
                Ratio x = cornerX[i];
                cornerX[i] = cornerX[i - 1];
                cornerX[i - 1] = x;
                Ratio y = cornerY[i];
                cornerY[i] = cornerY[i - 1];
                cornerY[i - 1] = y;
            }
        }

        private int orderOfCorners(int i, int j) {
            int byX = Ratio.order(cornerX[i].above, cornerX[i].below, cornerX[j].above, cornerX[j].below);
            if (byX != 0) {
                return byX;
            }
            return Ratio.order(cornerY[i].above, cornerY[i].below, cornerY[j].above, cornerY[j].below);
        }
    }

    /** A PART. */
    private static final class Part {
        final Region entry;
        final Region set;
        int mode;
        int from;
        int edge;
        int depth;
        boolean exact;
        boolean open;
        boolean gone;
        boolean harmed;

        Part() {
            entry = new Region();
            set = new Region();
        }
    }

    /** A CHECK: the PARTS made so far. The one behind the last is the bench for the next. */
    private static final class Check {
        final Part[] parts;
        final int[] start;
        int most;
        int without;
        int size;
        int steps;
        int why;
        int covered;
        int joined;
        Model model;
        private final Cutter cutter;
        private final Region guarded;

        Check(Model text, Cutter shared) {
            parts = new Part[PART_ROOM + 1];
            for (int p = 0; p <= PART_ROOM; p++) {
                parts[p] = new Part();
            }
            start = new int[4];
            cutter = shared;
            guarded = new Region();
            model = text;
        }

        /** Makes ready for a CHECK as the TEXT tells it; what is other is set between this and restart(). */
        void take(Model text) {
            model = text;
            most = text.most;
            without = NONE;
            for (int i = 0; i < 4; i++) {
                start[i] = text.start[i];
            }
        }

        void restart() {
            size = 0;
            steps = 0;
            why = 0;
            covered = 0;
            joined = 0;
            int m = model.startMode;
            if (m < 0) {
                return;
            }
            Part fresh = parts[0];
            cutter.loadBox(model.normals, start);
            cutter.cut(model.keeps[m]);
            if (!tighten(fresh.entry)) {
                return;
            }
            cutter.load(model.normals, fresh.entry);
            grow(m);
            if (tighten(fresh.set)) {
                fresh.from = NO_SUCH;
                fresh.edge = NO_SUCH;
                fresh.depth = 0;
                fresh.exact = true;
                addPart(m);
            }
        }

        /** How many STEPS were done. */
        int run(int n, boolean untilHarmed) {
            for (int done = 0; done < n; done++) {
                int p = firstOpen();
                if (p < 0 || why != 0 || untilHarmed && firstHarmed(false) >= 0) {
                    return done;
                }
                parts[p].open = false;
                steps++;
                for (int e = 0; e < model.edges && why == 0; e++) {
                    if (model.from[e] == parts[p].mode && e != without) {
                        follow(p, e);
                    }
                }
            }
            return n;
        }

        private void follow(int p, int e) {
            Part fresh = parts[size];
            int m = model.to[e];
            cutter.load(model.normals, parts[p].set);
            cutter.cut(model.guards[e]);
            if (!tighten(guarded)) {
                return;
            }
            cutter.loadMoved(model, e, guarded);
            cutter.cut(model.keeps[m]);
            cutter.cutToBox();
            if (!tighten(fresh.entry)) {
                return;
            }
            cutter.load(model.normals, fresh.entry);
            grow(m);
            if (!tighten(fresh.set)) {
                return;
            }
            if (isCovered(m, fresh.set)) {
                covered++;
            } else if (size >= PART_ROOM) {
                why = STOPPED_FULL;
            } else {
                fresh.from = p;
                fresh.edge = e;
                fresh.depth = parts[p].depth + 1;
                fresh.exact = parts[p].exact;
                if (partsOf(m) < most || joinLast(m)) {
                    addPart(m);
                }
            }
        }

        /** Joins the last PART of a MODE to the one that comes; false, if the CHECK STOPS by that. */
        private boolean joinLast(int m) {
            Part fresh = parts[size];
            Part last = parts[lastOf(m)];
            cutter.load(model.normals, fresh.set);
            cutter.join(last.set);
            grow(m);
            if (!tighten(fresh.set)) {
                return false;
            }
            last.gone = true;
            last.open = false;
            fresh.exact = false;
            joined++;
            return true;
        }

        private void addPart(int m) {
            Part fresh = parts[size];
            fresh.mode = m;
            fresh.open = true;
            fresh.gone = false;
            fresh.harmed = false;
            if (model.harms[m].size > 0) {
                cutter.load(model.normals, fresh.set);
                cutter.cut(model.harms[m]);
                fresh.harmed = cutter.shrink();
            }
            size++;
        }

        private void grow(int m) {
            cutter.growAlong(model.slopeX[m], model.slopeY[m]);
            cutter.cut(model.keeps[m]);
            cutter.cutToBox();
        }

        /** Whether points are left that can be told; the CHECK STOPS, if a LIMIT of them is BEYOND. */
        private boolean tighten(Region region) {
            if (!cutter.shrink()) {
                return false;
            }
            if (!cutter.settle(region)) {
                why = STOPPED_BEYOND;
                return false;
            }
            return true;
        }

        private boolean isCovered(int m, Region set) {
            for (int p = 0; p < size; p++) {
                if (isOf(p, m) && set.liesIn(parts[p].set, model.normals.size)) {
                    return true;
                }
            }
            return false;
        }

        private boolean isOf(int p, int m) {
            return parts[p].mode == m && !parts[p].gone;
        }

        int partsOf(int m) {
            int count = 0;
            for (int p = 0; p < size; p++) {
                if (isOf(p, m)) {
                    count++;
                }
            }
            return count;
        }

        /** Asked only where there is one. */
        private int lastOf(int m) {
            int last = 0;
            for (int p = 0; p < size; p++) {
                if (isOf(p, m)) {
                    last = p;
                }
            }
            return last;
        }

        int firstWith(int m, long x, long xBelow, long y, long yBelow) {
            for (int p = 0; p < size; p++) {
                if (isOf(p, m) && parts[p].set.holds(model.normals, x, xBelow, y, yBelow)) {
                    return p;
                }
            }
            return NO_SUCH;
        }

        private int firstOpen() {
            for (int p = 0; p < size; p++) {
                if (parts[p].open) {
                    return p;
                }
            }
            return NONE;
        }

        int firstHarmed(boolean exactOnly) {
            for (int p = 0; p < size; p++) {
                if (parts[p].harmed && (parts[p].exact || !exactOnly)) {
                    return p;
                }
            }
            return NO_SUCH;
        }

        boolean isSafe() {
            return firstHarmed(false) < 0 && firstOpen() < 0 && why == 0;
        }

        int openParts() {
            int count = 0;
            for (int p = 0; p < size; p++) {
                count += bit(parts[p].open);
            }
            return count;
        }

        int goneParts() {
            int count = 0;
            for (int p = 0; p < size; p++) {
                count += bit(parts[p].gone);
            }
            return count;
        }

        int harmedParts() {
            int count = 0;
            for (int p = 0; p < size; p++) {
                count += bit(parts[p].harmed);
            }
            return count;
        }
    }

    /** A WAY, found from its last place back to its first. */
    private static final class Way {
        static final int CELLS = 11;
        private static final int IN = 1;
        private static final int OUT = 5;
        private static final int TIME = 9;
        private static final long MOST_ABOVE = 1000000000000000L;
        private static final long MOST_BELOW = 1000000000L;

        final int[] cells;
        final Ratio time;
        int places;
        private final Ratio x;
        private final Ratio y;
        private final Cutter cutter;

        Way(Cutter shared) {
            cells = new int[PART_ROOM * CELLS];
            time = new Ratio();
            x = new Ratio();
            y = new Ratio();
            cutter = shared;
        }

        /** Whether there is one to this EXACT PART. */
        boolean find(Check check, int p) {
            Model model = check.model;
            int at = p;
            places = Math.min(check.parts[p].depth + 1, PART_ROOM);
            beginLast(model, check.parts[p]);
            for (int i = places - 1; i >= 0; i--) {
                Part part = check.parts[at];
                cells[i * CELLS] = at;
                if (!note(i, OUT)) {
                    return false;
                }
                goBack(model, part);
                if (!noteTime(i)) {
                    return false;
                }
                shift(x, model.slopeX[part.mode]);
                shift(y, model.slopeY[part.mode]);
                if (!note(i, IN)) {
                    return false;
                }
                at = part.from;
                if (i > 0) {
                    jumpBack(model, part.edge, check.parts[at].set);
                }
            }
            return true;
        }

        private void beginLast(Model model, Part part) {
            cutter.load(model.normals, part.set);
            if (part.harmed) {
                cutter.cut(model.harms[part.mode]);
            }
            cutter.shrink();
            cutter.least(x, y);
        }

        /** The least time back into the ENTRY; all times compared here are x.below times y.below too great. */
        private void goBack(Model model, Part part) {
            Normals normals = model.normals;
            long bestN = 0;
            long bestD = 1;
            for (int k = 0; k < normals.size; k++) {
                long pace = normals.a[k] * model.slopeX[part.mode] + normals.b[k] * model.slopeY[part.mode];
                if (pace > 0) {
                    long reach = normals.a[k] * x.above * y.below + normals.b[k] * y.above * x.below;
                    long n = reach * part.entry.below[k] - part.entry.above[k] * x.below * y.below;
                    long d = pace * part.entry.below[k];
                    if (Ratio.order(n, d, bestN, bestD) > 0) {
                        bestN = n;
                        bestD = d;
                    }
                }
            }
            time.let(bestN, bestD * x.below * y.below);
        }

        private void shift(Ratio size, long slope) {
            size.let(size.above * time.below - slope * time.above * size.below, size.below * time.below);
        }

        /** From IN behind an EDGE to OUT ahead of it. */
        private void jumpBack(Model model, int e, Region set) {
            boolean putsX = model.done[2 * e] == PUT;
            boolean putsY = model.done[2 * e + 1] == PUT;
            cutter.load(model.normals, set);
            cutter.cut(model.guards[e]);
            if (putsX && putsY) {
                cutter.shrink();
                cutter.least(x, y);
                return;
            }
            if (!putsX) {
                x.let(x.above - model.by[2 * e] * x.below, x.below);
            }
            if (!putsY) {
                y.let(y.above - model.by[2 * e + 1] * y.below, y.below);
            }
            if (putsX) {
                cutter.leastX(x, y);
            } else if (putsY) {
                cutter.leastY(x, y);
            }
        }

        private boolean note(int i, int what) {
            if (x.isBeyond() || y.isBeyond()) {
                return false;
            }
            int at = i * CELLS + what;
            cells[at] = (int) x.above;
            cells[at + 1] = (int) x.below;
            cells[at + 2] = (int) y.above;
            cells[at + 3] = (int) y.below;
            return true;
        }

        private boolean noteTime(int i) {
            if (time.isBeyond()) {
                return false;
            }
            cells[i * CELLS + TIME] = (int) time.above;
            cells[i * CELLS + TIME + 1] = (int) time.below;
            return true;
        }

        /** Adds the TIMES up in time; false if they come to more than is told. */
        boolean addTimes() {
            time.let(0, 1);
            for (int i = 0; i < places; i++) {
                long n = cells[i * CELLS + TIME];
                long d = cells[i * CELLS + TIME + 1];
                time.let(time.above * d + n * time.below, time.below * d);
                if (time.above > MOST_ABOVE || time.below > MOST_BELOW) {
                    return false;
                }
            }
            return true;
        }
    }

    /**
     * A RIDE. While an EDGE is looked at, the point is a ray and the times at which it can be taken
     * are a span, all of them `scale` times too great, so that only whole numbers are divided.
     */
    private static final class Ride {
        static final int CELLS = 8;
        private static final int ENDS_FOR_EVER = 1;
        private static final int ENDS_BEYOND = 2;
        private static final int ENDS_DONE = 3;

        final int[] cells;
        final Ratio x;
        final Ratio y;
        boolean told;
        int jumps;
        int end;
        private final Ratio time;
        private long scale;
        private long rayX;
        private long rayY;
        private long slopeX;
        private long slopeY;
        private long fromAbove;
        private long fromBelow;
        private long toAbove;
        private long toBelow;
        private boolean possible;

        Ride() {
            cells = new int[(JUMP_ROOM + 1) * CELLS];
            x = new Ratio();
            y = new Ratio();
            time = new Ratio();
        }

        boolean canBegin(Bounds keeps, int atX, int atY, int n) {
            for (int i = 0; i < keeps.size; i++) {
                if (keeps.a[i] * atX + keeps.b[i] * atY > keeps.c[i] * n) {
                    return false;
                }
            }
            return isWithin(atX, EDGE_OF_ALL * n) && isWithin(atY, EDGE_OF_ALL * n);
        }

        /** Rides from the point x, y. */
        void go(Model model, int m, int n) {
            int mode = m;
            told = true;
            jumps = 0;
            end = 0;
            time.let(0, 1);
            note(mode, NO_SUCH);
            for (int i = 0; i < n && i < JUMP_ROOM && end == 0; i++) {
                int e = firstEdge(model, mode);
                if (e < 0) {
                    end = ENDS_FOR_EVER;
                } else if (!jump(model, mode, e)) {
                    end = ENDS_BEYOND;
                } else {
                    mode = model.to[e];
                    jumps++;
                    note(mode, e);
                }
            }
            if (end == 0) {
                end = ENDS_DONE;
            }
        }

        /** The EDGE that can be taken first, and its time. */
        private int firstEdge(Model model, int mode) {
            int best = NONE;
            long bestAbove = 0;
            long bestBelow = 1;
            scale = x.below * y.below;
            for (int e = 0; e < model.edges; e++) {
                if (model.from[e] == mode && canTake(model, e)
                    && (best < 0 || fromAbove * bestBelow < bestAbove * fromBelow)) {
                    best = e;
                    bestAbove = fromAbove;
                    bestBelow = fromBelow;
                }
            }
            time.let(bestAbove, bestBelow * scale);
            return best;
        }

        private boolean canTake(Model model, int e) {
            int mode = model.from[e];
            possible = true;
            fromAbove = 0;
            fromBelow = 1;
            toBelow = 0;
            rayX = x.above * y.below;
            rayY = y.above * x.below;
            slopeX = model.slopeX[mode];
            slopeY = model.slopeY[mode];
            narrow(model.guards[e]);
            narrowToMode(model.keeps[mode]);
            boolean putsX = model.done[2 * e] == PUT;
            boolean putsY = model.done[2 * e + 1] == PUT;
            rayX = (putsX ? 0 : rayX) + model.by[2 * e] * scale;
            rayY = (putsY ? 0 : rayY) + model.by[2 * e + 1] * scale;
            slopeX = putsX ? 0 : slopeX;
            slopeY = putsY ? 0 : slopeY;
            narrowToMode(model.keeps[model.to[e]]);
            return possible && (toBelow == 0 || fromAbove * toBelow <= toAbove * fromBelow);
        }

        private void narrowToMode(Bounds keeps) {
            narrow(keeps);
            narrowBy(1, 0, EDGE_OF_ALL);
            narrowBy(-1, 0, EDGE_OF_ALL);
            narrowBy(0, 1, EDGE_OF_ALL);
            narrowBy(0, -1, EDGE_OF_ALL);
        }

        private void narrow(Bounds bounds) {
            for (int i = 0; i < bounds.size; i++) {
                narrowBy(bounds.a[i], bounds.b[i], bounds.c[i]);
            }
        }

        /** Leaves those times at which the ray holds a BOUND. */
        private void narrowBy(long a, long b, long c) {
            long pace = a * slopeX + b * slopeY;
            long room = c * scale - a * rayX - b * rayY;
            if (pace == 0) {
                possible = possible && room >= 0;
            } else if (pace > 0) {
                if (toBelow == 0 || room * toBelow < toAbove * pace) {
                    toAbove = room;
                    toBelow = pace;
                }
            } else if (-room * fromBelow > fromAbove * -pace) {
                fromAbove = -room;
                fromBelow = -pace;
            }
        }

        /** Goes on by the time and over an EDGE; false, if what comes is BEYOND. */
        private boolean jump(Model model, int mode, int e) {
            if (time.isBeyond()) {
                return false;
            }
            moveSize(x, model.slopeX[mode], model.done[2 * e], model.by[2 * e]);
            moveSize(y, model.slopeY[mode], model.done[2 * e + 1], model.by[2 * e + 1]);
            return !x.isBeyond() && !y.isBeyond();
        }

        private void moveSize(Ratio size, long slope, int done, long by) {
            if (done == PUT) {
                size.let(by, 1);
                return;
            }
            long below = size.below * time.below;
            size.let(size.above * time.below + slope * time.above * size.below + by * below, below);
        }

        private void note(int mode, int e) {
            int at = jumps * CELLS;
            cells[at] = mode;
            cells[at + 1] = (int) x.above;
            cells[at + 2] = (int) x.below;
            cells[at + 3] = (int) y.above;
            cells[at + 4] = (int) y.below;
            cells[at + 5] = e;
            cells[at + 6] = (int) time.above;
            cells[at + 7] = (int) time.below;
        }
    }
}
