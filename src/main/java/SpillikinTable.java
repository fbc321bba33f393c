import java.util.NoSuchElementException;

/** A spillikin table: which sticks bar which along a direction, and in what order they come away. */
public final class SpillikinTable {
    public static final int NONE = -1;

    private static final int MOST_BOXES = 8;
    private static final int WIDTHS = 3;
    private static final int ROWS = 20;
    private static final int ROW_LENGTH = 30;
    private static final int MOST_GIVEN = 100;
    private static final int MOST_ON_TABLE = 40;
    private static final int MOST_PIECES = 2;
    private static final int FARTHEST = 1000;
    private static final int STEEPEST = 100;
    private static final int AXES = 3;

    private static final int HOOK = 1;
    private static final int MARKED = 2;
    private static final int DEAR = 3;
    private static final int MOST_MARK = 127;
    private static final int LEAST_DEAR = 2;
    private static final int MOST_DEAR = 100;

    private static final int ROW_MISSING = -1;
    private static final int ROW_SHORT = -2;
    private static final int NUMBER_BEYOND = -3;
    private static final int POINTS_WRONG = -4;
    private static final int TABLE_FULL = -5;
    private static final int STICK_TOUCHED = -10;
    private static final int PLACE_BEYOND = -2;
    private static final int WIDTHS_UNLIKE = -3;

    private static final int LAID = 1;
    private static final int MOVED = 2;
    private static final int TAKEN = 3;

    private final Box[] boxes = new Box[MOST_BOXES];
    private int boxCount;
    private final Stick[] sticks = new Stick[MOST_GIVEN];
    private int given;
    private int onTable;
    private final Sight sight = new Sight();
    private final Acts acts = new Acts();
    private final Page page = new Page();
    private final CrossingList listed = new CrossingList();
    private final Tangle tangle = new Tangle();
    private boolean tangleKnown;
    private final Remedy remedy = new Remedy();
    private boolean remedyKnown;
    private final int[] proof = new int[MOST_ON_TABLE];
    private int pushed;

    public SpillikinTable() {
    }

    public int box(int width) throws IllegalArgumentException, IllegalStateException {
        if (width < 0 || width >= WIDTHS) {
            throw new IllegalArgumentException("no such width");
        }
        if (boxCount >= MOST_BOXES) {
            throw new IllegalStateException("there are 8 boxes");
        }
        boxes[boxCount] = new Box(width);
        boxCount++;
        return boxCount - 1;
    }

    public int row(int box, int k, int n) throws IndexOutOfBoundsException {
        Box holder = boxWithRow(box, k);
        if (n < 0 || n > ROW_LENGTH) {
            return NONE;
        }
        holder.renew(k, n);
        return n;
    }

    public int put(int box, int k, int i, long v) throws IndexOutOfBoundsException {
        Box holder = boxWithRow(box, k);
        int length = holder.lengthOf(k);
        if (length == NONE) {
            return ROW_MISSING;
        }
        if (i < 0 || i >= length) {
            return PLACE_BEYOND;
        }
        holder.write(k, i, v);
        return 1;
    }

    public int copy(int boxA, int a, int i, int boxB, int b, int j, int n) throws IndexOutOfBoundsException {
        Box from = boxWithRow(boxA, a);
        Box to = boxWithRow(boxB, b);
        int fromLength = from.lengthOf(a);
        int toLength = to.lengthOf(b);
        if (fromLength == NONE || toLength == NONE) {
            return ROW_MISSING;
        }
        if (i < 0 || j < 0 || n < 0 || i > fromLength - n || j > toLength - n) {
            return PLACE_BEYOND;
        }
        if (from.width != to.width) {
            return WIDTHS_UNLIKE;
        }
        System.arraycopy(from.numbers, a * ROW_LENGTH + i, to.numbers, b * ROW_LENGTH + j, n);
        return n;
    }

    public int tear(int box, int k) throws IndexOutOfBoundsException {
        return boxWithRow(box, k).remove(k);
    }

    public int lay(int kind, int box, int k, int mark, int worth)
            throws IndexOutOfBoundsException, IllegalArgumentException {
        Box holder = boxWithRow(box, k);
        if (!isKind(kind, mark, worth)) {
            throw new IllegalArgumentException("no such kind, mark or worth");
        }
        Stick stick = new Stick(kind, mark, worth);
        int reason = stick.takePoints(holder, k);
        if (reason != 0) {
            return reason;
        }
        if (onTable >= MOST_ON_TABLE || given >= MOST_GIVEN) {
            return TABLE_FULL;
        }
        int touched = leastTouched(stick);
        if (touched != NONE) {
            return STICK_TOUCHED - touched;
        }
        int s = given;
        sticks[s] = stick;
        given++;
        bringBack(stick);
        acts.note(LAID, s, 0, 0, 0);
        return s;
    }

    public int move(int s, int x, int y, int z) throws NoSuchElementException {
        Stick stick = stickOnTable(s);
        if (!stick.staysNear(x, y, z)) {
            return NUMBER_BEYOND;
        }
        stick.shift(x, y, z);
        int touched = leastTouched(stick);
        if (touched != NONE) {
            stick.shift(-x, -y, -z);
            return STICK_TOUCHED - touched;
        }
        acts.note(MOVED, s, x, y, z);
        forgetWhatWasSeen();
        return 1;
    }

    public int away(int s) throws NoSuchElementException {
        takeAway(stickOnTable(s));
        acts.note(TAKEN, s, 0, 0, 0);
        return onTable;
    }

    public boolean lift(int s) throws NoSuchElementException {
        Stick stick = stickOnTable(s);
        if (!tangleNow().isFree(s)) {
            return false;
        }
        takeAway(stick);
        acts.note(TAKEN, s, 0, 0, 0);
        return true;
    }

    public void turn(int x, int y, int z) throws IllegalArgumentException {
        if (!isSlope(x) || !isSlope(y) || !isSlope(z) || (x == 0 && y == 0 && z == 0)) {
            throw new IllegalArgumentException("no direction");
        }
        sight.lookAlong(x, y, z);
        forgetWhatWasSeen();
    }

    public int undo() {
        if (acts.size == 0) {
            return NONE;
        }
        int latest = acts.dropLatest();
        int s = acts.sticks[latest];
        if (!wasGiven(s)) {
            return NONE;
        }
        Stick stick = sticks[s];
        int act = acts.kinds[latest];
        if (act == LAID) {
            takeAway(stick);
        } else if (act == MOVED) {
            stick.shift(-acts.xs[latest], -acts.ys[latest], -acts.zs[latest]);
            forgetWhatWasSeen();
        } else {
            bringBack(stick);
        }
        return act;
    }

    public int told(int s, int what) throws NoSuchElementException, IllegalArgumentException {
        Stick stick = stickOnTable(s);
        switch (what) {
            case 0:
                return stick.kind;
            case 1:
                return stick.mark;
            case 2:
                return stick.worth;
            case 3:
                return stick.pieces;
            default:
                if (what < 4 || what >= 4 + stick.pointNumbers()) {
                    throw new IllegalArgumentException("no such what");
                }
                return stick.points[what - 4];
        }
    }

    public int count(int what) {
        switch (what) {
            case 0:
                return boxCount;
            case 1:
                return onTable;
            case 2:
                return given;
            case 3:
                return page.size;
            case 4:
                return acts.size;
            case 5:
                return tangleNow().pairs();
            default:
                return NONE;
        }
    }

    public int after(int s) {
        for (int other = 0; other < given; other++) {
            if (other > s && isHere(other)) {
                return other;
            }
        }
        return NONE;
    }

    public boolean bars(int a, int b) throws NoSuchElementException {
        stickOnTable(a);
        stickOnTable(b);
        Tangle now = tangleNow();
        return now.isAbove(now.placeOf(a), now.placeOf(b));
    }

    public int crossings(int s) throws NoSuchElementException {
        return crossingsOf(s).size;
    }

    public int crossing(int s, int k, int what) throws NoSuchElementException {
        Crossing chosen = crossingsOf(s).at(k);
        if (chosen == null) {
            return NONE;
        }
        switch (what) {
            case 0:
                return chosen.piece;
            case 1:
                return chosen.other;
            case 2:
                return chosen.otherPiece;
            case 3:
                return chosen.heightTop > 0 ? 1 : 0;
            default:
                return NONE;
        }
    }

    public int print(int s, int k, int what) throws NoSuchElementException {
        Crossing chosen = crossingsOf(s).at(k);
        if (chosen == null || what < 0 || what > 1) {
            return NONE;
        }
        if (what == 0) {
            page.showFraction(chosen.placeTop, chosen.placeBottom);
        } else {
            page.showFraction(chosen.heightTop, chosen.heightBottom);
        }
        return page.size;
    }

    public boolean free(int s) throws NoSuchElementException {
        stickOnTable(s);
        return tangleNow().isFree(s);
    }

    public int order(int k) {
        Tangle now = tangleNow();
        return k < 0 || k >= now.liftedSize ? NONE : now.numberAt(now.lifted[k]);
    }

    public int knots() {
        return tangleNow().knotCount;
    }

    public int knot(int k, int what, int i) {
        Tangle now = tangleNow();
        if (k < 0 || k >= now.knotCount) {
            return NONE;
        }
        switch (what) {
            case 0:
                return now.numberAt(placeInSet(now.knotSets[k], i));
            case 1:
                return now.numberAt(now.placeInRing(now.knotSets[k], i));
            default:
                return NONE;
        }
    }

    public int fewest() {
        return remedyFor(tangleNow()).worth;
    }

    public int few(int i) {
        Tangle now = tangleNow();
        return now.numberAt(placeInSet(remedyFor(now).places, i));
    }

    public int layer(int s) throws NoSuchElementException {
        stickOnTable(s);
        Tangle now = tangleNow();
        int place = now.placeOf(s);
        return now.knotCount > 0 || place == NONE ? NONE : now.layers[place];
    }

    public int push(int s) {
        if (pushed >= proof.length) {
            return NONE;
        }
        proof[pushed] = s;
        pushed++;
        return pushed;
    }

    public int check(int how) throws IllegalArgumentException {
        if (how != 0 && how != 1) {
            throw new IllegalArgumentException("no such how");
        }
        int wrong = how == 0 ? wrongInOrder(tangleNow()) : wrongInRing(tangleNow());
        pushed = 0;
        return wrong;
    }

    public int octet(int k) {
        return k < 0 || k >= page.size ? NONE : page.bytes[k];
    }

    private Box boxWithRow(int box, int k) {
        if (box < 0 || box >= boxCount || boxes[box] == null || k < 0 || k >= ROWS) {
            throw new IndexOutOfBoundsException("no such box or row");
        }
        return boxes[box];
    }

    private static boolean isKind(int kind, int mark, int worth) {
        if (kind < 0 || kind > DEAR) {
            return false;
        }
        int mostMark = kind >= MARKED ? MOST_MARK : 0;
        int leastWorth = kind == DEAR ? LEAST_DEAR : 1;
        int mostWorth = kind == DEAR ? MOST_DEAR : 1;
        return mark >= 0 && mark <= mostMark && worth >= leastWorth && worth <= mostWorth;
    }

    private static boolean isSlope(int number) {
        return number >= -STEEPEST && number <= STEEPEST;
    }

    private boolean wasGiven(int s) {
        return s >= 0 && s < given && sticks[s] != null;
    }

    private boolean isHere(int s) {
        return wasGiven(s) && sticks[s].onTable;
    }

    private Stick stickOnTable(int s) {
        if (!isHere(s)) {
            throw new NoSuchElementException("not on the table");
        }
        return sticks[s];
    }

    private int leastTouched(Stick stick) {
        for (int s = 0; s < given; s++) {
            if (isHere(s) && sticks[s] != stick && sight.touch(stick, sticks[s])) {
                return s;
            }
        }
        return NONE;
    }

    private void bringBack(Stick stick) {
        stick.onTable = true;
        onTable++;
        forgetWhatWasSeen();
    }

    private void takeAway(Stick stick) {
        stick.onTable = false;
        onTable--;
        forgetWhatWasSeen();
    }

    private void forgetWhatWasSeen() {
        tangleKnown = false;
        remedyKnown = false;
        listed.owner = NONE;
    }

    /** Looked at only when asked for: a run of acts would else look at every pair at each of them. */
    private Tangle tangleNow() {
        if (!tangleKnown) {
            tangle.clear();
            for (int s = 0; s < given; s++) {
                if (isHere(s)) {
                    tangle.include(s, sticks[s].worth);
                }
            }
            for (int a = 0; a < tangle.size; a++) {
                for (int b = a + 1; b < tangle.size; b++) {
                    lookAtPair(a, b);
                }
            }
            tangle.settle();
            tangleKnown = true;
        }
        return tangle;
    }

    private void lookAtPair(int a, int b) {
        int numberA = tangle.numberAt(a);
        int numberB = tangle.numberAt(b);
        if (!wasGiven(numberA) || !wasGiven(numberB)) {
            return;
        }
        Stick stickA = sticks[numberA];
        Stick stickB = sticks[numberB];
        for (int i = 0; i < stickA.pieces; i++) {
            for (int j = 0; j < stickB.pieces; j++) {
                if (sight.sees(stickA, i, stickB, j)) {
                    if (sight.heightTop > 0) {
                        tangle.setAbove(b, a);
                    } else {
                        tangle.setAbove(a, b);
                    }
                }
            }
        }
    }

    private Remedy remedyFor(Tangle now) {
        if (!remedyKnown) {
            remedy.find(now);
            remedyKnown = true;
        }
        return remedy;
    }

    private CrossingList crossingsOf(int s) {
        Stick stick = stickOnTable(s);
        if (listed.owner == s) {
            return listed;
        }
        listed.size = 0;
        for (int other = 0; other < given; other++) {
            if (other != s && isHere(other)) {
                listCrossings(stick, other, sticks[other]);
            }
        }
        listed.owner = s;
        return listed;
    }

    private void listCrossings(Stick stick, int number, Stick other) {
        for (int i = 0; i < stick.pieces; i++) {
            for (int j = 0; j < other.pieces; j++) {
                if (sight.sees(stick, i, other, j)) {
                    listed.insert(i, number, j, sight);
                }
            }
        }
    }

    private int wrongInOrder(Tangle now) {
        long left = now.everyPlace();
        for (int i = 0; i < pushed; i++) {
            int place = now.placeOf(proof[i]);
            if (place == NONE || !isIn(left, place) || (now.above[place] & left) != 0) {
                return i;
            }
            left &= ~(1L << place);
        }
        return left == 0 ? NONE : pushed;
    }

    private int wrongInRing(Tangle now) {
        long seen = 0;
        int first = NONE;
        int latest = NONE;
        for (int i = 0; i < pushed; i++) {
            int place = now.placeOf(proof[i]);
            if (place == NONE || isIn(seen, place) || (i > 0 && !now.isAbove(place, latest))) {
                return i;
            }
            seen |= 1L << place;
            first = i == 0 ? place : first;
            latest = place;
        }
        if (pushed < 2) {
            return pushed;
        }
        return now.isAbove(first, latest) ? NONE : 0;
    }

    private static boolean isIn(long set, int place) {
        return (set >> place & 1L) != 0;
    }

    /** The i-th place of a set of places, rising, or NONE. */
    private static int placeInSet(long set, int i) {
        int passed = 0;
        for (int place = 0; place < MOST_ON_TABLE; place++) {
            if (isIn(set, place)) {
                if (passed == i) {
                    return place;
                }
                passed++;
            }
        }
        return NONE;
    }

    /** Rows of numbers of one width, all held in one array so that a new row costs nothing. */
    private static final class Box {
        private final int width;
        private final long[] numbers = new long[ROWS * ROW_LENGTH];
        private final int[] lengths = new int[ROWS];

        Box(int width) {
            this.width = width;
            for (int k = 0; k < ROWS; k++) {
                lengths[k] = NONE;
            }
        }

        int lengthOf(int k) {
            return k < 0 || k >= ROWS ? NONE : lengths[k];
        }

        void renew(int k, int n) {
            if (k < 0 || k >= ROWS) {
                return;
            }
            lengths[k] = n;
            for (int i = 0; i < ROW_LENGTH; i++) {
                numbers[k * ROW_LENGTH + i] = 0;
            }
        }

        void write(int k, int i, long v) {
            if (i < 0 || i >= lengthOf(k)) {
                return;
            }
            if (width == 0) {
                numbers[k * ROW_LENGTH + i] = (short) v;
            } else if (width == 1) {
                numbers[k * ROW_LENGTH + i] = (int) v;
            } else {
                numbers[k * ROW_LENGTH + i] = v;
            }
        }

        long read(int k, int i) {
            return i < 0 || i >= lengthOf(k) ? 0 : numbers[k * ROW_LENGTH + i];
        }

        int remove(int k) {
            int length = lengthOf(k);
            if (length != NONE) {
                lengths[k] = NONE;
            }
            return length;
        }
    }

    /** A stick of any kind; a hook is one with two pieces. */
    private static final class Stick {
        private final int kind;
        private final int mark;
        private final int worth;
        private final int pieces;
        private final int[] points = new int[AXES * (MOST_PIECES + 1)];
        private boolean onTable;

        Stick(int kind, int mark, int worth) {
            this.kind = kind;
            this.mark = mark;
            this.worth = worth;
            this.pieces = kind == HOOK ? 2 : 1;
        }

        int pointNumbers() {
            return AXES * (pieces + 1);
        }

        int at(int point, int axis) {
            int k = AXES * point + axis;
            return k < 0 || k >= points.length ? 0 : points[k];
        }

        /** 0, or the reason for which the row makes none. */
        int takePoints(Box box, int k) {
            int length = box.lengthOf(k);
            if (length == NONE) {
                return ROW_MISSING;
            }
            if (length < pointNumbers()) {
                return ROW_SHORT;
            }
            for (int i = 0; i < pointNumbers(); i++) {
                long number = box.read(k, i);
                if (!isNear(number)) {
                    return NUMBER_BEYOND;
                }
                points[i] = (int) number;
            }
            return hasProperPieces() ? 0 : POINTS_WRONG;
        }

        private static boolean isNear(long number) {
            return number >= -FARTHEST && number <= FARTHEST;
        }

        private boolean hasProperPieces() {
            for (int i = 0; i < pieces; i++) {
                if (at(i, 0) == at(i + 1, 0) && at(i, 1) == at(i + 1, 1) && at(i, 2) == at(i + 1, 2)) {
                    return false;
                }
            }
            return pieces == 1 || !foldsOnItself();
        }

        /** From its bend both pieces run the same way: only then have they more than the bend in common. */
        private boolean foldsOnItself() {
            long[] back = new long[AXES];
            long[] on = new long[AXES];
            for (int axis = 0; axis < AXES; axis++) {
                back[axis] = at(0, axis) - at(1, axis);
                on[axis] = at(2, axis) - at(1, axis);
            }
            long[] normal = new long[AXES];
            Sight.cross(back, on, normal);
            return Sight.isZero(normal) && Sight.dot(back, on) > 0;
        }

        boolean staysNear(int x, int y, int z) {
            for (int i = 0; i <= pieces; i++) {
                if (!isNear((long) at(i, 0) + x) || !isNear((long) at(i, 1) + y) || !isNear((long) at(i, 2) + z)) {
                    return false;
                }
            }
            return true;
        }

        void shift(int x, int y, int z) {
            for (int i = 0; i <= pieces; i++) {
                points[AXES * i] += x;
                points[AXES * i + 1] += y;
                points[AXES * i + 2] += z;
            }
        }
    }

    /**
     * Exact looks at two pieces p and q, as vectors from their first points, with the gap from p's
     * first point to q's. All sizes stay below 2^63: |det(p, q, direction)| is at most 1.6e9.
     */
    private static final class Sight {
        private final long[] direction = new long[AXES];
        private int steepest;
        private final long[] p = new long[AXES];
        private final long[] q = new long[AXES];
        private final long[] gap = new long[AXES];
        private final long[] pSeen = new long[AXES];
        private final long[] qSeen = new long[AXES];
        private final long[] gapSeen = new long[AXES];
        private final long[] normal = new long[AXES];
        private boolean offered;
        private long placeTop;
        private long placeBottom;
        private long heightTop;
        private long heightBottom;

        Sight() {
            direction[2] = 1;
            steepest = 2;
        }

        void lookAlong(int x, int y, int z) {
            direction[0] = x;
            direction[1] = y;
            direction[2] = z;
            steepest = widestAxis(direction);
        }

        boolean touch(Stick a, Stick b) {
            for (int i = 0; i < a.pieces; i++) {
                for (int j = 0; j < b.pieces; j++) {
                    take(a, i, b, j);
                    if (piecesTouch()) {
                        return true;
                    }
                }
            }
            return false;
        }

        private void take(Stick a, int i, Stick b, int j) {
            for (int axis = 0; axis < AXES; axis++) {
                p[axis] = a.at(i + 1, axis) - a.at(i, axis);
                q[axis] = b.at(j + 1, axis) - b.at(j, axis);
                gap[axis] = b.at(j, axis) - a.at(i, axis);
            }
        }

        private boolean piecesTouch() {
            cross(p, q, normal);
            if (isZero(normal)) {
                return parallelPiecesTouch();
            }
            if (dot(gap, normal) != 0) {
                return false;
            }
            long whole = dot(normal, normal);
            cross(gap, q, pSeen);
            cross(gap, p, qSeen);
            return isPart(dot(pSeen, normal), whole) && isPart(dot(qSeen, normal), whole);
        }

        private boolean parallelPiecesTouch() {
            cross(gap, p, gapSeen);
            if (!isZero(gapSeen)) {
                return false;
            }
            long start = dot(gap, p);
            long end = start + dot(q, p);
            return Math.max(start, end) >= 0 && Math.min(start, end) <= dot(p, p);
        }

        /** Whether piece j of b crosses piece i of a; if so, the place on a's piece and b's height over it. */
        boolean sees(Stick a, int i, Stick b, int j) {
            take(a, i, b, j);
            long whole = det(p, q, direction);
            if (whole == 0) {
                return seesInOneLine();
            }
            long sign = whole < 0 ? -1 : 1;
            long onP = sign * det(gap, q, direction);
            whole *= sign;
            if (!isPart(onP, whole) || !isPart(sign * det(gap, p, direction), whole)) {
                return false;
            }
            placeTop = onP;
            placeBottom = whole;
            heightTop = sign * det(p, q, gap);
            heightBottom = whole;
            return true;
        }

        /**
         * The pieces are seen as points or as parallel lines, so that one axis tells where on the line
         * they are. All pairs of parts at which they cross lie between pairs of which one is an end.
         */
        private boolean seesInOneLine() {
            cross(p, direction, pSeen);
            cross(q, direction, qSeen);
            cross(gap, direction, gapSeen);
            long[] line = isZero(pSeen) ? qSeen : pSeen;
            int axis = widestAxis(line);
            if (!isMultiple(gapSeen, line, axis)) {
                return false;
            }
            offered = false;
            for (int end = 0; end <= 1; end++) {
                offerEnd(true, end, pSeen[axis], qSeen[axis], -gapSeen[axis]);
                offerEnd(false, end, qSeen[axis], pSeen[axis], gapSeen[axis]);
            }
            return offered;
        }

        /** Offers an end of p, or else of q, with the part of the other piece that is seen at it, if any is. */
        private void offerEnd(boolean ofP, int end, long own, long other, long shift) {
            long part = end * own + shift;
            if (other == 0 && part == 0) {
                offer(ofP, end, 0, 1);
                offer(ofP, end, 1, 1);
            }
            if (other == 0) {
                return;
            }
            long sign = other < 0 ? -1 : 1;
            long whole = sign * other;
            if (isPart(sign * part, whole)) {
                offer(ofP, end * whole, sign * part, whole);
            }
        }

        /** The pieces cross at these parts of whole: keeps the least place and the least height. */
        private void offer(boolean ofP, long own, long other, long whole) {
            long onP = ofP ? own : other;
            long onQ = ofP ? other : own;
            long sign = direction[steepest] < 0 ? -1 : 1;
            long bottom = sign * whole * direction[steepest];
            long top = sign * (whole * gap[steepest] + onQ * q[steepest] - onP * p[steepest]);
            if (!offered || onP * placeBottom < placeTop * whole) {
                placeTop = onP;
                placeBottom = whole;
            }
            long amount = top < 0 ? -top : top;
            long least = heightTop < 0 ? -heightTop : heightTop;
            if (!offered || amount * heightBottom < least * bottom) {
                heightTop = top;
                heightBottom = bottom;
            }
            offered = true;
        }

        private static int widestAxis(long[] a) {
            int widest = 0;
            for (int axis = 1; axis < AXES; axis++) {
                if (Math.abs(a[axis]) > Math.abs(a[widest])) {
                    widest = axis;
                }
            }
            return widest;
        }

        /** Whether a is a multiple of b, whose widest axis is told; of no b at all only 0 is one. */
        private static boolean isMultiple(long[] a, long[] b, int widest) {
            if (b[widest] == 0) {
                return isZero(a);
            }
            for (int axis = 0; axis < AXES; axis++) {
                if (a[axis] * b[widest] != a[widest] * b[axis]) {
                    return false;
                }
            }
            return true;
        }

        private static boolean isPart(long part, long whole) {
            return part >= 0 && part <= whole;
        }

        static void cross(long[] a, long[] b, long[] into) {
            into[0] = a[1] * b[2] - a[2] * b[1];
            into[1] = a[2] * b[0] - a[0] * b[2];
            into[2] = a[0] * b[1] - a[1] * b[0];
        }

        static long dot(long[] a, long[] b) {
            return a[0] * b[0] + a[1] * b[1] + a[2] * b[2];
        }

        static boolean isZero(long[] a) {
            return a[0] == 0 && a[1] == 0 && a[2] == 0;
        }

        private static long det(long[] a, long[] b, long[] c) {
            return a[0] * (b[1] * c[2] - b[2] * c[1])
                    + a[1] * (b[2] * c[0] - b[0] * c[2])
                    + a[2] * (b[0] * c[1] - b[1] * c[0]);
        }
    }

    /** One crossing of a stick, its fractions not yet in lowest terms. */
    private static final class Crossing {
        private int piece;
        private int other;
        private int otherPiece;
        private long placeTop;
        private long placeBottom;
        private long heightTop;
        private long heightBottom;

        void set(int piece, int other, int otherPiece, Sight sight) {
            this.piece = piece;
            this.other = other;
            this.otherPiece = otherPiece;
            placeTop = sight.placeTop;
            placeBottom = sight.placeBottom;
            heightTop = sight.heightTop;
            heightBottom = sight.heightBottom;
        }

        boolean precedes(Crossing late) {
            if (piece != late.piece) {
                return piece < late.piece;
            }
            long mine = placeTop * late.placeBottom;
            long theirs = late.placeTop * placeBottom;
            if (mine != theirs) {
                return mine < theirs;
            }
            return other != late.other ? other < late.other : otherPiece < late.otherPiece;
        }
    }

    /** The crossings of one stick in their order; its rows are used again for every stick. */
    private static final class CrossingList {
        private final Crossing[] rows = new Crossing[MOST_PIECES * MOST_PIECES * (MOST_ON_TABLE - 1)];
        private int size;
        private int owner = NONE;

        /** Crossing k, or null without one. */
        Crossing at(int k) {
            return k < 0 || k >= size ? null : rows[k];
        }

        void insert(int piece, int other, int otherPiece, Sight sight) {
            if (size >= rows.length) {
                return;
            }
            if (rows[size] == null) {
                rows[size] = new Crossing();
            }
            Crossing added = rows[size];
            added.set(piece, other, otherPiece, sight);
            int place = size;
            while (place > 0 && added.precedes(rows[place - 1])) {
                rows[place] = rows[place - 1];
                place--;
            }
            rows[place] = added;
            size++;
        }
    }

    /**
     * Who bars whom. A stick's place is how many on the table have a lesser number, so that a set of
     * sticks is a long and its order by places is the order by numbers.
     */
    private static final class Tangle {
        private int size;
        private final int[] numbers = new int[MOST_ON_TABLE];
        private final int[] worths = new int[MOST_ON_TABLE];
        private final long[] above = new long[MOST_ON_TABLE];
        private final long[] below = new long[MOST_ON_TABLE];
        private final long[] reach = new long[MOST_ON_TABLE];
        private int liftedSize;
        private final int[] lifted = new int[MOST_ON_TABLE];
        private final int[] layers = new int[MOST_ON_TABLE];
        private int knotCount;
        private final long[] knotSets = new long[MOST_ON_TABLE / 2];
        private final long[] walks = new long[MOST_ON_TABLE + 1];

        void clear() {
            size = 0;
        }

        void include(int number, int worth) {
            if (size >= MOST_ON_TABLE) {
                return;
            }
            numbers[size] = number;
            worths[size] = worth;
            above[size] = 0;
            below[size] = 0;
            size++;
        }

        void setAbove(int a, int b) {
            if (isPlace(a) && isPlace(b)) {
                above[b] |= 1L << a;
                below[a] |= 1L << b;
            }
        }

        boolean isAbove(int a, int b) {
            return isPlace(a) && isPlace(b) && isIn(above[b], a);
        }

        boolean isFree(int number) {
            int place = placeOf(number);
            return place != NONE && above[place] == 0;
        }

        private boolean isPlace(int place) {
            return place >= 0 && place < size;
        }

        int placeOf(int number) {
            for (int place = 0; place < size; place++) {
                if (numbers[place] == number) {
                    return place;
                }
            }
            return NONE;
        }

        int numberAt(int place) {
            return isPlace(place) ? numbers[place] : NONE;
        }

        long everyPlace() {
            return (1L << size) - 1;
        }

        int pairs() {
            int pairs = 0;
            for (int place = 0; place < size; place++) {
                pairs += Long.bitCount(above[place]);
            }
            return pairs;
        }

        void settle() {
            liftInOrder();
            findReach();
            findKnots();
        }

        private void liftInOrder() {
            long left = everyPlace();
            liftedSize = 0;
            for (int step = 0; step < size; step++) {
                int place = leastFree(left);
                if (place == NONE) {
                    return;
                }
                layers[place] = layerUnder(above[place]);
                lifted[liftedSize] = place;
                liftedSize++;
                left &= ~(1L << place);
            }
        }

        private int leastFree(long left) {
            for (int place = 0; place < size; place++) {
                if (isIn(left, place) && (above[place] & left) == 0) {
                    return place;
                }
            }
            return NONE;
        }

        /** All that bar a stick are lifted ahead of it, so that their layers are known. */
        private int layerUnder(long barring) {
            int layer = 0;
            for (int place = 0; place < size; place++) {
                if (isIn(barring, place)) {
                    layer = Math.max(layer, layers[place] + 1);
                }
            }
            return layer;
        }

        private void findReach() {
            for (int place = 0; place < size; place++) {
                reach[place] = above[place];
            }
            for (int through = 0; through < size; through++) {
                for (int place = 0; place < size; place++) {
                    if (isIn(reach[place], through)) {
                        reach[place] |= reach[through];
                    }
                }
            }
        }

        private void findKnots() {
            knotCount = 0;
            long done = 0;
            for (int place = 0; place < size; place++) {
                if (!isIn(done, place) && isIn(reach[place], place) && knotCount < knotSets.length) {
                    long set = heldTogetherWith(place);
                    knotSets[knotCount] = set;
                    knotCount++;
                    done |= set;
                }
            }
        }

        private long heldTogetherWith(int place) {
            long set = 0;
            for (int other = 0; other < size; other++) {
                if (isIn(reach[place], other) && isIn(reach[other], place)) {
                    set |= 1L << other;
                }
            }
            return set;
        }

        /** The i-th place of the ring of a knot, or NONE. */
        int placeInRing(long set, int i) {
            int start = NONE;
            int length = 0;
            int most = Long.bitCount(set);
            for (int place = 0; place < size; place++) {
                int found = isIn(set, place) ? ringThrough(place, most) : 0;
                if (found > 0) {
                    start = place;
                    length = found;
                    most = found - 1;
                }
            }
            if (i < 0 || i >= length) {
                return NONE;
            }
            ringThrough(start, length);
            int at = start;
            for (int step = 1; step <= i; step++) {
                at = placeInSet(above[at] & walks[length - step], 0);
                if (at == NONE) {
                    return NONE;
                }
            }
            return at;
        }

        /**
         * The length of a shortest ring through a place if it is at most a number, else 0. walks[n]
         * becomes the set from which n steps, each to one that bars, can end at the place; for the
         * fewest n that lead round none of these can meet a stick twice.
         */
        private int ringThrough(int place, int most) {
            walks[0] = 1L << place;
            for (int n = 1; n <= most && n < walks.length; n++) {
                walks[n] = barredByAny(walks[n - 1]);
                if (isIn(walks[n], place)) {
                    return n;
                }
            }
            return 0;
        }

        private long barredByAny(long set) {
            long barred = 0;
            for (int place = 0; place < size; place++) {
                if (isIn(set, place)) {
                    barred |= below[place];
                }
            }
            return barred;
        }
    }

    /** The fewest sticks without which there is no knot, found for each knot alone by trying its subsets. */
    private static final class Remedy {
        private static final int MOST_HELD = 12;

        private int worth;
        private long places;
        private int held;
        private final int[] heldPlaces = new int[MOST_HELD];
        private final int[] heldWorths = new int[MOST_HELD];
        private final int[] heldAbove = new int[MOST_HELD];
        private final int[] setWorths = new int[1 << MOST_HELD];

        void find(Tangle tangle) {
            worth = 0;
            places = 0;
            for (int k = 0; k < tangle.knotCount; k++) {
                if (Long.bitCount(tangle.knotSets[k]) > MOST_HELD) {
                    worth = NONE;
                    places = 0;
                    return;
                }
                takeKnot(tangle, tangle.knotSets[k]);
                addBestSet();
            }
        }

        private void takeKnot(Tangle tangle, long set) {
            held = 0;
            for (int place = 0; place < tangle.size; place++) {
                if (isIn(set, place) && held < MOST_HELD) {
                    heldPlaces[held] = place;
                    heldWorths[held] = tangle.worths[place];
                    held++;
                }
            }
            for (int i = 0; i < held; i++) {
                heldAbove[i] = 0;
                for (int j = 0; j < held; j++) {
                    if (tangle.isAbove(heldPlaces[j], heldPlaces[i])) {
                        heldAbove[i] |= 1 << j;
                    }
                }
            }
        }

        private void addBestSet() {
            int all = (1 << held) - 1;
            weighSets();
            int best = all;
            for (int set = 0; set < all; set++) {
                if (isBetter(set, best) && isLoose(all & ~set)) {
                    best = set;
                }
            }
            worth += setWorths[best];
            for (int i = 0; i < held; i++) {
                if ((best >> i & 1) != 0) {
                    places |= 1L << heldPlaces[i];
                }
            }
        }

        private void weighSets() {
            setWorths[0] = 0;
            for (int i = 0; i < held; i++) {
                int first = 1 << i;
                for (int rest = 0; rest < first; rest++) {
                    setWorths[first + rest] = heldWorths[i] + setWorths[rest];
                }
            }
        }

        /** By worth, by how many, then the set that has the least stick that only one of them has. */
        private boolean isBetter(int set, int best) {
            if (setWorths[set] != setWorths[best]) {
                return setWorths[set] < setWorths[best];
            }
            int more = Integer.bitCount(set) - Integer.bitCount(best);
            if (more != 0) {
                return more < 0;
            }
            int unlike = set ^ best;
            return (set & unlike & -unlike) != 0;
        }

        /** Whether these can all be lifted, so that no ring is among them. */
        private boolean isLoose(int left) {
            for (int pass = 0; pass < held && left != 0; pass++) {
                int before = left;
                for (int i = 0; i < held; i++) {
                    if ((heldAbove[i] & left) == 0) {
                        left &= ~(1 << i);
                    }
                }
                if (left == before) {
                    return false;
                }
            }
            return left == 0;
        }
    }

    /** The latest acts, in a round of rows: the oldest gives way. */
    private static final class Acts {
        private static final int MOST_ACTS = 8;

        private int size;
        private int next;
        private final int[] kinds = new int[MOST_ACTS];
        private final int[] sticks = new int[MOST_ACTS];
        private final int[] xs = new int[MOST_ACTS];
        private final int[] ys = new int[MOST_ACTS];
        private final int[] zs = new int[MOST_ACTS];

        void note(int kind, int stick, int x, int y, int z) {
            kinds[next] = kind;
            sticks[next] = stick;
            xs[next] = x;
            ys[next] = y;
            zs[next] = z;
            next = (next + 1) % MOST_ACTS;
            size = Math.min(size + 1, MOST_ACTS);
        }

        /** The row of the latest act, which stays readable until the next act is recorded. */
        int dropLatest() {
            next = (next + MOST_ACTS - 1) % MOST_ACTS;
            size--;
            return next;
        }
    }

    /** What was printed latest. */
    private static final class Page {
        private static final int MOST_DIGITS = 19;
        private static final int MOST_STEPS = 100;

        private final byte[] bytes = new byte[2 * MOST_DIGITS + 2];
        private int size;

        void showFraction(long top, long bottom) {
            long amount = Math.abs(top);
            long shared = commonDivisor(amount, bottom);
            if (shared < 1) {
                return;
            }
            size = 0;
            if (top < 0) {
                add('-');
            }
            addNumber(amount / shared);
            if (bottom / shared != 1) {
                add('/');
                addNumber(bottom / shared);
            }
        }

        /** Euclid's steps on longs are fewer than 100. */
        private static long commonDivisor(long a, long b) {
            for (int step = 0; step < MOST_STEPS && b != 0; step++) {
                long rest = a % b;
                a = b;
                b = rest;
            }
            return a;
        }

        private void addNumber(long number) {
            long unit = 1;
            for (int digit = 1; digit < MOST_DIGITS && number / unit >= 10; digit++) {
                unit *= 10;
            }
            for (int digit = 0; digit < MOST_DIGITS && unit > 0; digit++) {
                add((char) ('0' + number / unit % 10));
                unit /= 10;
            }
        }

        private void add(char letter) {
            if (size < bytes.length) {
                bytes[size] = (byte) letter;
                size++;
            }
        }
    }
}
