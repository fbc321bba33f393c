import java.lang.reflect.InvocationTargetException;
import java.lang.reflect.Method;
import java.lang.reflect.Modifier;
import java.math.BigInteger;
import java.util.ArrayList;
import java.util.Arrays;
import java.util.Collections;
import java.util.Comparator;
import java.util.HashSet;
import java.util.List;
import java.util.NoSuchElementException;
import java.util.Random;
import java.util.Set;
import java.util.TreeSet;

/**
 * Runs of drawn calls on a table and on a slow model of the document, answer by answer. The model
 * shares no way of reckoning with the class: fractions of any size, clipping of the square of
 * parts, rows and subsets tried one by one, whole states kept for undo().
 */
public final class SpillikinTableModel {
    private static int wrong = 0;
    private static long calls = 0;

    // ---- fractions of any size

    record Fraction(BigInteger top, BigInteger bottom) implements Comparable<Fraction> {
        static final Fraction ZERO = of(0);
        static final Fraction ONE = of(1);

        static Fraction of(long n) {
            return new Fraction(BigInteger.valueOf(n), BigInteger.ONE);
        }

        static Fraction lowest(BigInteger top, BigInteger bottom) {
            BigInteger g = top.gcd(bottom);
            if (bottom.signum() < 0) {
                g = g.negate();
            }
            return new Fraction(top.divide(g), bottom.divide(g));
        }

        Fraction plus(Fraction o) {
            return lowest(top.multiply(o.bottom).add(o.top.multiply(bottom)), bottom.multiply(o.bottom));
        }

        Fraction minus(Fraction o) {
            return plus(new Fraction(o.top.negate(), o.bottom));
        }

        Fraction times(Fraction o) {
            return lowest(top.multiply(o.top), bottom.multiply(o.bottom));
        }

        Fraction over(Fraction o) {
            return lowest(top.multiply(o.bottom), bottom.multiply(o.top));
        }

        int sign() {
            return top.signum();
        }

        Fraction amount() {
            return new Fraction(top.abs(), bottom);
        }

        @Override
        public int compareTo(Fraction o) {
            return top.multiply(o.bottom).compareTo(o.top.multiply(bottom));
        }

        @Override
        public String toString() {
            return bottom.equals(BigInteger.ONE) ? top.toString() : top + "/" + bottom;
        }
    }

    // ---- the square 0..1 x 0..1 of parts (u, v), cut down to lines a u - b v = c

    static List<Fraction[]> cut(List<Fraction[]> corners, long a, long b, long c) {
        List<Fraction[]> kept = new ArrayList<>();
        for (int i = 0; i < corners.size(); i++) {
            Fraction[] here = corners.get(i);
            Fraction offHere = off(here, a, b, c);
            if (offHere.sign() == 0) {
                kept.add(here);
            }
            for (int j = i + 1; j < corners.size(); j++) {
                Fraction[] there = corners.get(j);
                Fraction offThere = off(there, a, b, c);
                if (offHere.sign() * offThere.sign() < 0) {
                    Fraction part = offHere.over(offHere.minus(offThere));
                    kept.add(new Fraction[] {
                        here[0].plus(part.times(there[0].minus(here[0]))),
                        here[1].plus(part.times(there[1].minus(here[1])))});
                }
            }
        }
        return kept;
    }

    static Fraction off(Fraction[] at, long a, long b, long c) {
        return Fraction.of(a).times(at[0]).minus(Fraction.of(b).times(at[1])).minus(Fraction.of(c));
    }

    static List<Fraction[]> square() {
        List<Fraction[]> corners = new ArrayList<>();
        for (int u = 0; u <= 1; u++) {
            for (int v = 0; v <= 1; v++) {
                corners.add(new Fraction[] {Fraction.of(u), Fraction.of(v)});
            }
        }
        return corners;
    }

    static final class Piece {
        final long[] from = new long[3];
        final long[] along = new long[3];
    }

    static boolean touch(Piece p, Piece q) {
        List<Fraction[]> corners = square();
        for (int x = 0; x < 3; x++) {
            corners = cut(corners, p.along[x], q.along[x], q.from[x] - p.from[x]);
        }
        return !corners.isEmpty();
    }

    /** Place and height, or null. */
    static Fraction[] cross(Piece p, Piece q, int[] d) {
        List<Fraction[]> corners = square();
        for (int x = 0; x < 3; x++) {
            int y = (x + 1) % 3;
            corners = cut(corners, p.along[x] * d[y] - p.along[y] * d[x], q.along[x] * d[y] - q.along[y] * d[x],
                    (q.from[x] - p.from[x]) * d[y] - (q.from[y] - p.from[y]) * d[x]);
        }
        if (corners.isEmpty()) {
            return null;
        }
        int axis = d[0] != 0 ? 0 : d[1] != 0 ? 1 : 2;
        Fraction place = null;
        Fraction height = null;
        for (Fraction[] at : corners) {
            Fraction t = Fraction.of(q.from[axis] - p.from[axis]).plus(at[1].times(Fraction.of(q.along[axis])))
                    .minus(at[0].times(Fraction.of(p.along[axis]))).over(Fraction.of(d[axis]));
            place = place == null || at[0].compareTo(place) < 0 ? at[0] : place;
            height = height == null || t.amount().compareTo(height.amount()) < 0 ? t : height;
        }
        return new Fraction[] {place, height};
    }

    // ---- the model

    static final class Rod implements Cloneable {
        int number;
        int kind;
        int mark;
        int worth;
        int[] at;

        int pieces() {
            return kind == 1 ? 2 : 1;
        }

        Piece piece(int i) {
            Piece piece = new Piece();
            for (int x = 0; x < 3; x++) {
                piece.from[x] = at[3 * i + x];
                piece.along[x] = at[3 * i + 3 + x] - at[3 * i + x];
            }
            return piece;
        }

        Rod moved(int x, int y, int z) {
            Rod rod = new Rod();
            rod.number = number;
            rod.kind = kind;
            rod.mark = mark;
            rod.worth = worth;
            rod.at = at.clone();
            for (int i = 0; i < at.length; i += 3) {
                rod.at[i] += x;
                rod.at[i + 1] += y;
                rod.at[i + 2] += z;
            }
            return rod;
        }
    }

    record Cross(int piece, Fraction place, int other, int otherPiece, Fraction height) implements Comparable<Cross> {
        @Override
        public int compareTo(Cross o) {
            if (piece != o.piece) {
                return piece - o.piece;
            }
            int c = place.compareTo(o.place);
            if (c != 0) {
                return c;
            }
            return other != o.other ? other - o.other : otherPiece - o.otherPiece;
        }
    }

    record Act(int kind, List<Rod> before) {
    }

    static final class Model {
        final List<Integer> widths = new ArrayList<>();
        final List<long[][]> boxes = new ArrayList<>();
        List<Rod> table = new ArrayList<>();
        int given = 0;
        int[] d = {0, 0, 1};
        final List<Act> acts = new ArrayList<>();
        String page = "";
        final List<Integer> proof = new ArrayList<>();
        // kept between changes, for the model is slow
        boolean[][] bars;
        List<Integer> few;
        int fewWorth;

        long[][] rows(int box, int k) {
            if (box < 0 || box >= boxes.size() || k < 0 || k > 19) {
                throw new IndexOutOfBoundsException();
            }
            return boxes.get(box);
        }

        int box(int width) {
            if (width < 0 || width > 2) {
                throw new IllegalArgumentException();
            }
            if (boxes.size() == 8) {
                throw new IllegalStateException();
            }
            widths.add(width);
            boxes.add(new long[20][]);
            return boxes.size() - 1;
        }

        int row(int box, int k, int n) {
            long[][] rows = rows(box, k);
            if (n < 0 || n > 30) {
                return -1;
            }
            rows[k] = new long[n];
            return n;
        }

        int put(int box, int k, int i, long v) {
            long[][] rows = rows(box, k);
            if (rows[k] == null) {
                return -1;
            }
            if (i < 0 || i >= rows[k].length) {
                return -2;
            }
            rows[k][i] = widths.get(box) == 0 ? (short) v : widths.get(box) == 1 ? (int) v : v;
            return 1;
        }

        int copy(int boxA, int a, int i, int boxB, int b, int j, int n) {
            long[] from = rows(boxA, a)[a];
            long[] to = rows(boxB, b)[b];
            if (from == null || to == null) {
                return -1;
            }
            if (i < 0 || j < 0 || n < 0 || (long) i + n > from.length || (long) j + n > to.length) {
                return -2;
            }
            if (!widths.get(boxA).equals(widths.get(boxB))) {
                return -3;
            }
            long[] held = from.clone();
            for (int m = 0; m < n; m++) {
                to[j + m] = held[i + m];
            }
            return n;
        }

        int tear(int box, int k) {
            long[][] rows = rows(box, k);
            if (rows[k] == null) {
                return -1;
            }
            int n = rows[k].length;
            rows[k] = null;
            return n;
        }

        int lay(int kind, int box, int k, int mark, int worth) {
            long[] row = rows(box, k)[k];
            if (kind < 0 || kind > 3 || mark < 0 || mark > 127 || (kind < 2 && mark != 0)
                    || (kind == 3 ? worth < 2 || worth > 100 : worth != 1)) {
                throw new IllegalArgumentException();
            }
            if (row == null) {
                return -1;
            }
            int need = kind == 1 ? 9 : 6;
            if (row.length < need) {
                return -2;
            }
            Rod rod = new Rod();
            rod.kind = kind;
            rod.mark = mark;
            rod.worth = worth;
            rod.number = given;
            rod.at = new int[need];
            for (int i = 0; i < need; i++) {
                if (row[i] < -1000 || row[i] > 1000) {
                    return -3;
                }
                rod.at[i] = (int) row[i];
            }
            for (int i = 0; i < rod.pieces(); i++) {
                if (Arrays.equals(rod.piece(i).along, new long[3])) {
                    return -4;
                }
            }
            if (kind == 1 && moreThanTheBend(rod)) {
                return -4;
            }
            if (table.size() == 40 || given == 100) {
                return -5;
            }
            int met = met(rod);
            if (met >= 0) {
                return -10 - met;
            }
            act(1);
            table.add(rod);
            given++;
            return rod.number;
        }

        boolean moreThanTheBend(Rod rod) {
            List<Fraction[]> corners = square();
            Piece p = rod.piece(0);
            Piece q = rod.piece(1);
            for (int x = 0; x < 3; x++) {
                corners = cut(corners, p.along[x], q.along[x], q.from[x] - p.from[x]);
            }
            for (Fraction[] at : corners) {
                if (at[0].compareTo(Fraction.ONE) != 0) {
                    return true;
                }
            }
            return false;
        }

        int met(Rod rod) {
            for (Rod other : table) {
                if (other.number != rod.number) {
                    for (int i = 0; i < rod.pieces(); i++) {
                        for (int j = 0; j < other.pieces(); j++) {
                            if (touch(rod.piece(i), other.piece(j))) {
                                return other.number;
                            }
                        }
                    }
                }
            }
            return -1;
        }

        void act(int kind) {
            acts.add(new Act(kind, new ArrayList<>(table)));
            if (acts.size() > 8) {
                acts.remove(0);
            }
            forget();
        }

        void forget() {
            bars = null;
            few = null;
        }

        Rod rod(int s) {
            for (Rod rod : table) {
                if (rod.number == s) {
                    return rod;
                }
            }
            throw new NoSuchElementException();
        }

        int move(int s, int x, int y, int z) {
            Rod rod = rod(s);
            for (int i = 0; i < rod.at.length; i++) {
                long n = (long) rod.at[i] + (i % 3 == 0 ? x : i % 3 == 1 ? y : z);
                if (n < -1000 || n > 1000) {
                    return -3;
                }
            }
            Rod moved = rod.moved(x, y, z);
            int met = met(moved);
            if (met >= 0) {
                return -10 - met;
            }
            act(2);
            table.set(table.indexOf(rod), moved);
            return 1;
        }

        int away(int s) {
            Rod rod = rod(s);
            act(3);
            table.remove(rod);
            return table.size();
        }

        int lift(int s) {
            if (free(s) == 0) {
                return 0;
            }
            away(s);
            return 1;
        }

        int turn(int x, int y, int z) {
            if (Math.abs((long) x) > 100 || Math.abs((long) y) > 100 || Math.abs((long) z) > 100
                    || (x | y | z) == 0) {
                throw new IllegalArgumentException();
            }
            d = new int[] {x, y, z};
            forget();
            return 0;
        }

        int undo() {
            if (acts.isEmpty()) {
                return -1;
            }
            Act act = acts.remove(acts.size() - 1);
            table = act.before();
            forget();
            return act.kind();
        }

        int told(int s, int what) {
            Rod rod = rod(s);
            if (what < 0 || what >= 4 + rod.at.length) {
                throw new IllegalArgumentException();
            }
            return what == 0 ? rod.kind : what == 1 ? rod.mark : what == 2 ? rod.worth : what == 3 ? rod.pieces()
                    : rod.at[what - 4];
        }

        int count(int what) {
            if (what == 5) {
                int pairs = 0;
                for (Rod a : table) {
                    for (Rod b : table) {
                        pairs += barring()[a.number][b.number] ? 1 : 0;
                    }
                }
                return pairs;
            }
            return what == 0 ? boxes.size() : what == 1 ? table.size() : what == 2 ? given : what == 3 ? page.length()
                    : what == 4 ? acts.size() : -1;
        }

        int after(int s) {
            for (Rod rod : table) {
                if (rod.number > s) {
                    return rod.number;
                }
            }
            return -1;
        }

        boolean[][] barring() {
            if (bars == null) {
                bars = new boolean[100][100];
                for (Rod a : table) {
                    for (Rod b : table) {
                        if (a != b) {
                            for (int i = 0; i < a.pieces(); i++) {
                                for (int j = 0; j < b.pieces(); j++) {
                                    Fraction[] seen = cross(b.piece(j), a.piece(i), d);
                                    bars[a.number][b.number] |= seen != null && seen[1].sign() > 0;
                                }
                            }
                        }
                    }
                }
            }
            return bars;
        }

        int bars(int a, int b) {
            rod(a);
            rod(b);
            return barring()[a][b] ? 1 : 0;
        }

        List<Cross> crosses(int s) {
            Rod rod = rod(s);
            List<Cross> all = new ArrayList<>();
            for (Rod other : table) {
                if (other != rod) {
                    for (int i = 0; i < rod.pieces(); i++) {
                        for (int j = 0; j < other.pieces(); j++) {
                            Fraction[] seen = cross(rod.piece(i), other.piece(j), d);
                            if (seen != null) {
                                all.add(new Cross(i, seen[0], other.number, j, seen[1]));
                            }
                        }
                    }
                }
            }
            all.sort(null);
            return all;
        }

        int crossings(int s) {
            return crosses(s).size();
        }

        int crossing(int s, int k, int what) {
            List<Cross> all = crosses(s);
            if (k < 0 || k >= all.size()) {
                return -1;
            }
            Cross c = all.get(k);
            return what == 0 ? c.piece() : what == 1 ? c.other() : what == 2 ? c.otherPiece()
                    : what == 3 ? c.height().sign() > 0 ? 1 : 0 : -1;
        }

        int print(int s, int k, int what) {
            List<Cross> all = crosses(s);
            if (k < 0 || k >= all.size() || what < 0 || what > 1) {
                return -1;
            }
            page = (what == 0 ? all.get(k).place() : all.get(k).height()).toString();
            return page.length();
        }

        boolean freeAmong(int s, Set<Integer> left) {
            for (int other : left) {
                if (barring()[other][s]) {
                    return false;
                }
            }
            return true;
        }

        TreeSet<Integer> all() {
            TreeSet<Integer> all = new TreeSet<>();
            for (Rod rod : table) {
                all.add(rod.number);
            }
            return all;
        }

        int free(int s) {
            rod(s);
            return freeAmong(s, all()) ? 1 : 0;
        }

        List<Integer> lifted(TreeSet<Integer> left) {
            List<Integer> order = new ArrayList<>();
            boolean more = true;
            while (more) {
                more = false;
                for (int s : left) {
                    if (freeAmong(s, left)) {
                        order.add(s);
                        left.remove(s);
                        more = true;
                        break;
                    }
                }
            }
            return order;
        }

        int order(int k) {
            List<Integer> order = lifted(all());
            return k < 0 || k >= order.size() ? -1 : order.get(k);
        }

        Set<Integer> reached(int from) {
            Set<Integer> seen = new HashSet<>();
            List<Integer> open = new ArrayList<>(List.of(from));
            while (!open.isEmpty()) {
                int at = open.remove(open.size() - 1);
                for (int next : all()) {
                    if (barring()[at][next] && seen.add(next)) {
                        open.add(next);
                    }
                }
            }
            return seen;
        }

        List<TreeSet<Integer>> knotSets() {
            List<TreeSet<Integer>> knots = new ArrayList<>();
            Set<Integer> done = new HashSet<>();
            for (int s : all()) {
                if (done.add(s)) {
                    TreeSet<Integer> knot = new TreeSet<>(List.of(s));
                    for (int other : reached(s)) {
                        if (reached(other).contains(s)) {
                            knot.add(other);
                        }
                    }
                    done.addAll(knot);
                    if (knot.size() > 1) {
                        knots.add(knot);
                    }
                }
            }
            return knots;
        }

        int knots() {
            return knotSets().size();
        }

        List<Integer> ring(TreeSet<Integer> knot) {
            for (int length = 2; length <= knot.size(); length++) {
                List<Integer> row = new ArrayList<>();
                if (grow(row, length, knot)) {
                    return row;
                }
            }
            throw new AssertionError("a knot without a ring");
        }

        boolean grow(List<Integer> row, int length, TreeSet<Integer> knot) {
            if (row.size() == length) {
                return barring()[row.get(0)][row.get(length - 1)];
            }
            for (int s : knot) {
                if (!row.contains(s) && (row.isEmpty() || barring()[s][row.get(row.size() - 1)])) {
                    row.add(s);
                    if (grow(row, length, knot)) {
                        return true;
                    }
                    row.remove(row.size() - 1);
                }
            }
            return false;
        }

        int knot(int k, int what, int i) {
            List<TreeSet<Integer>> knots = knotSets();
            if (k < 0 || k >= knots.size() || what < 0 || what > 1) {
                return -1;
            }
            List<Integer> row = what == 0 ? new ArrayList<>(knots.get(k)) : ring(knots.get(k));
            return i < 0 || i >= row.size() ? -1 : row.get(i);
        }

        /** Every subset of all that are in knots, at once and not knot by knot. */
        void findFew() {
            if (few != null) {
                return;
            }
            few = new ArrayList<>();
            fewWorth = 0;
            List<Integer> held = new ArrayList<>();
            for (TreeSet<Integer> knot : knotSets()) {
                if (knot.size() > 12) {
                    fewWorth = -1;
                    return;
                }
                held.addAll(knot);
            }
            held.sort(null);
            List<Integer> best = null;
            int bestWorth = 0;
            for (int set = 0; set < 1 << held.size(); set++) {
                List<Integer> out = new ArrayList<>();
                TreeSet<Integer> left = new TreeSet<>(held);
                int worth = 0;
                for (int i = 0; i < held.size(); i++) {
                    if ((set >> i & 1) != 0) {
                        out.add(held.get(i));
                        worth += rod(held.get(i)).worth;
                        left.remove(held.get(i));
                    }
                }
                if ((best == null || worth < bestWorth || (worth == bestWorth && earlier(out, best)))) {
                    lifted(left);
                    if (left.isEmpty()) {
                        best = out;
                        bestWorth = worth;
                    }
                }
            }
            few = best;
            fewWorth = bestWorth;
        }

        static boolean earlier(List<Integer> a, List<Integer> b) {
            if (a.size() != b.size()) {
                return a.size() < b.size();
            }
            for (int i = 0; i < a.size(); i++) {
                if (!a.get(i).equals(b.get(i))) {
                    return a.get(i) < b.get(i);
                }
            }
            return false;
        }

        int fewest() {
            findFew();
            return fewWorth;
        }

        int few(int i) {
            findFew();
            return i < 0 || i >= few.size() ? -1 : few.get(i);
        }

        int layer(int s) {
            rod(s);
            return knots() > 0 ? -1 : depth(s);
        }

        /** By peeling off all that are free at once, as often as it takes to come to the stick. */
        int depth(int s) {
            Set<Integer> left = all();
            for (int depth = 0; ; depth++) {
                if (freeAmong(s, left)) {
                    return depth;
                }
                Set<Integer> still = new TreeSet<>();
                for (int other : left) {
                    if (!freeAmong(other, left)) {
                        still.add(other);
                    }
                }
                left = still;
            }
        }

        int push(int s) {
            if (proof.size() == 40) {
                return -1;
            }
            proof.add(s);
            return proof.size();
        }

        int check(int how) {
            if (how != 0 && how != 1) {
                throw new IllegalArgumentException();
            }
            List<Integer> row = new ArrayList<>(proof);
            proof.clear();
            Set<Integer> all = all();
            Set<Integer> left = all();
            for (int i = 0; i < row.size(); i++) {
                int s = row.get(i);
                if (!all.contains(s) || !left.contains(s)) {
                    return i;
                }
                if (how == 0 && !freeAmong(s, left)) {
                    return i;
                }
                if (how == 1 && i > 0 && !barring()[s][row.get(i - 1)]) {
                    return i;
                }
                left.remove(s);
            }
            if (how == 0) {
                return left.isEmpty() ? -1 : row.size();
            }
            if (row.size() < 2) {
                return row.size();
            }
            return barring()[row.get(0)][row.get(row.size() - 1)] ? -1 : 0;
        }

        int octet(int k) {
            return k < 0 || k >= page.length() ? -1 : page.charAt(k);
        }
    }

    // ---- both asked

    interface Ask {
        long answer();
    }

    static String answer(Ask ask) {
        try {
            return Long.toString(ask.answer());
        } catch (RuntimeException e) {
            return "throws." + e.getClass().getSimpleName();
        }
    }

    static void due(String run, String call, Ask got, Ask want) {
        calls++;
        String due = answer(want);
        String given = answer(got);
        if (!given.equals(due) && wrong++ < 40) {
            System.out.println(run + ": " + call + " answered " + given + ", due is " + due);
        }
    }

    static long bit(boolean b) {
        return b ? 1 : 0;
    }

    /** What the drawn runs met, so that a run that meets nothing is seen. */
    static final int[] MET = new int[8];

    static final int[] INTS = {Integer.MIN_VALUE, Integer.MIN_VALUE + 1, -2001, -1001, -1000, -101, -100, -31, -11, -2,
        -1, 0, 1, 2, 3, 4, 5, 6, 7, 8, 9, 12, 13, 19, 20, 29, 30, 31, 39, 40, 41, 99, 100, 101, 127, 128, 1000, 1001,
        2001, 65535, 65536, Integer.MAX_VALUE - 1, Integer.MAX_VALUE};
    static final long[] LONGS = {Long.MIN_VALUE, Long.MIN_VALUE + 1, -(1L << 32), Integer.MIN_VALUE, -65536, -1001,
        -1000, -1, 0, 1, 2, 5, 1000, 1001, 32767, 32768, 65535, 65536, 65537, Integer.MAX_VALUE, 1L << 31, 1L << 32,
        (1L << 32) + 1, Long.MAX_VALUE};
    static final Method[] FACE = face();

    static Method[] face() {
        List<Method> open = new ArrayList<>();
        for (Method method : SpillikinTable.class.getDeclaredMethods()) {
            if (Modifier.isPublic(method.getModifiers())) {
                open.add(method);
            }
        }
        // the machine tells them in any order
        open.sort(Comparator.comparing(Method::getName));
        return open.toArray(new Method[0]);
    }

    static Method modelOf(Method method) {
        try {
            return Model.class.getDeclaredMethod(method.getName(), method.getParameterTypes());
        } catch (NoSuchMethodException e) {
            throw new AssertionError(e);
        }
    }

    static long called(Method method, Object on, Object[] arguments) {
        try {
            Object answer = method.invoke(on, arguments);
            return answer == null ? 0 : answer instanceof Boolean b ? bit(b) : ((Number) answer).longValue();
        } catch (InvocationTargetException e) {
            if (e.getCause() instanceof RuntimeException thrown) {
                throw thrown;
            }
            throw new AssertionError(e.getCause());
        } catch (IllegalAccessException e) {
            throw new AssertionError(e);
        }
    }

    static final class Run {
        final String name;
        final Random random;
        final int far;
        final int steep;
        final int most;
        final int hooks;
        /** Most sticks lie in one plane, and so does the direction: one behind the other, or as points. */
        final boolean flat;
        final SpillikinTable t = new SpillikinTable();
        final Model m = new Model();

        Run(long seed, int far, int steep, int most, int hooks, boolean flat) {
            this.name = "run " + seed;
            this.flat = flat;
            this.random = new Random(seed);
            this.far = far;
            this.steep = steep;
            this.most = most;
            this.hooks = hooks;
        }

        int within(int n) {
            return random.nextInt(2 * n + 1) - n;
        }

        int number() {
            return random.nextInt(12) == 0 ? within(3) : random.nextInt(Math.max(1, m.given + 1));
        }

        int here() {
            return m.table.isEmpty() || random.nextInt(20) == 0 ? number()
                    : m.table.get(random.nextInt(m.table.size())).number;
        }

        /** What a table answers after 512 calls is free: a run that is longer would test nothing. */
        void end(long begun) {
            if (calls - begun > 512) {
                throw new AssertionError(name + " has " + (calls - begun) + " calls");
            }
        }

        void start() {
            long begun = calls;
            for (int i = 0; i < 2; i++) {
                int width = random.nextInt(3);
                due(name, "box(" + width + ")", () -> t.box(width), () -> m.box(width));
            }
            due(name, "row(0, 0, 9)", () -> t.row(0, 0, 9), () -> m.row(0, 0, 9));
            due(name, "row(1, 0, 9)", () -> t.row(1, 0, 9), () -> m.row(1, 0, 9));
            while (calls - begun < 250 && m.table.size() < most) {
                layOne();
            }
            stepOn(begun);
        }

        /** A step is at most some 180 calls. */
        void stepOn(long begun) {
            while (calls - begun < 320) {
                step();
            }
            end(begun);
        }

        /** As many sticks as there can be, far more than start() has calls for. */
        void crowd() {
            long begun = calls;
            due(name, "box(2)", () -> t.box(2), () -> m.box(2));
            due(name, "row(0, 0, 9)", () -> t.row(0, 0, 9), () -> m.row(0, 0, 9));
            while (calls - begun < 300 && m.table.size() < 40) {
                for (int i = 0; i < 4; i++) {
                    int at = random.nextInt(9);
                    int v = within(far);
                    due(name, "put(0, 0, " + at + ", " + v + ")", () -> t.put(0, 0, at, v), () -> m.put(0, 0, at, v));
                }
                int kind = random.nextInt(10) < hooks ? 1 : 0;
                due(name, "lay(" + kind + ", 0, 0, 0, 1)", () -> t.lay(kind, 0, 0, 0, 1), () -> m.lay(kind, 0, 0, 0, 1));
            }
            MET[7] = Math.max(MET[7], m.table.size());
            stepOn(begun);
        }

        /** Sticks round circles, each of which rises over the next: long rings, and knots of about 12. */
        void circles() {
            long begun = calls;
            due(name, "box(0)", () -> t.box(0), () -> m.box(0));
            due(name, "row(0, 0, 9)", () -> t.row(0, 0, 9), () -> m.row(0, 0, 9));
            List<int[]> round = new ArrayList<>();
            for (int circle = random.nextInt(2); circle >= 0; circle--) {
                addCircle(round, circle * 500, 3 + random.nextInt(circle == 0 ? 12 : 5));
            }
            Collections.shuffle(round, random);
            for (int[] numbers : round) {
                layRow(new int[] {0, 2, 3}[random.nextInt(3)], numbers);
            }
            while (calls - begun < 250) {
                seeKnots();
                step();
            }
            stepOn(begun);
        }

        void addCircle(List<int[]> round, int z, int n) {
            for (int i = 0; i < n; i++) {
                double x = Math.cos(2 * Math.PI * i / n);
                double y = Math.sin(2 * Math.PI * i / n);
                double half = (360 + random.nextInt(120)) * Math.tan(Math.PI / n);
                int rise = 10 + random.nextInt(60);
                round.add(new int[] {
                    (int) Math.round(300 * x + half * y), (int) Math.round(300 * y - half * x), z - rise,
                    (int) Math.round(300 * x - half * y), (int) Math.round(300 * y + half * x), z + rise});
            }
        }

        /** A run up to the last call that counts, with arguments at the limits and far beyond them. */
        void wild() {
            long begun = calls;
            due(name, "box(1)", () -> t.box(1), () -> m.box(1));
            due(name, "row(0, 0, 9)", () -> t.row(0, 0, 9), () -> m.row(0, 0, 9));
            while (calls - begun < 512) {
                if (random.nextInt(12) == 0 && calls - begun < 500) {
                    layOne();
                } else {
                    anyCall();
                }
            }
            end(begun);
        }

        void anyCall() {
            Method on = FACE[random.nextInt(FACE.length)];
            if (on.getName().startsWith("few") && !modelCanTell()) {
                return;
            }
            Class<?>[] types = on.getParameterTypes();
            Object[] arguments = new Object[types.length];
            for (int i = 0; i < types.length; i++) {
                if (types[i] == long.class) {
                    arguments[i] = LONGS[random.nextInt(LONGS.length)];
                } else {
                    arguments[i] = argument();
                }
            }
            due(name, on.getName() + Arrays.toString(arguments), () -> called(on, t, arguments),
                    () -> called(modelOf(on), m, arguments));
        }

        int argument() {
            switch (random.nextInt(8)) {
                case 0:
                case 1:
                    return INTS[random.nextInt(INTS.length)];
                case 2:
                case 3:
                    return here();
                case 4:
                    return within(12);
                default:
                    return random.nextInt(3);
            }
        }

        void layOne() {
            int kind = random.nextInt(10) < hooks ? 1 : new int[] {0, 2, 3}[random.nextInt(3)];
            int[] numbers = new int[kind == 1 ? 9 : 6];
            for (int i = 0; i < numbers.length; i++) {
                numbers[i] = flat && i % 3 == 1 ? within(50) / 50 : within(far);
            }
            layRow(kind, numbers);
        }

        void layRow(int kind, int... numbers) {
            for (int i = 0; i < numbers.length; i++) {
                int at = i;
                int v = numbers[i];
                due(name, "put(0, 0, " + at + ", " + v + ")", () -> t.put(0, 0, at, v), () -> m.put(0, 0, at, v));
            }
            int mark = kind >= 2 ? random.nextInt(128) : 0;
            int worth = kind == 3 ? 2 + random.nextInt(random.nextBoolean() ? 2 : 99) : 1;
            due(name, "lay(" + kind + ", 0, 0, " + mark + ", " + worth + ")", () -> t.lay(kind, 0, 0, mark, worth),
                    () -> m.lay(kind, 0, 0, mark, worth));
        }

        void step() {
            int s = here();
            switch (random.nextInt(15)) {
                case 0: {
                    int x = within(steep);
                    int y = flat ? 0 : within(steep);
                    int z = within(steep);
                    due(name, "turn(" + x + ", " + y + ", " + z + ")", () -> {
                        t.turn(x, y, z);
                        return 0;
                    }, () -> m.turn(x, y, z));
                    break;
                }
                case 1: {
                    int x = within(far / 4 + 1);
                    int y = within(far / 4 + 1);
                    int z = within(far / 4 + 1);
                    due(name, "move(" + s + ", " + x + ", " + y + ", " + z + ")", () -> t.move(s, x, y, z),
                            () -> m.move(s, x, y, z));
                    break;
                }
                case 2:
                    due(name, "undo()", () -> t.undo(), () -> m.undo());
                    break;
                case 3:
                    if (random.nextInt(4) == 0) {
                        due(name, "away(" + s + ")", () -> t.away(s), () -> m.away(s));
                    } else {
                        due(name, "lift(" + s + ")", () -> bit(t.lift(s)), () -> m.lift(s));
                    }
                    break;
                case 4:
                    layOne();
                    break;
                case 5:
                    rows();
                    break;
                case 6:
                    seeCrossings(s);
                    break;
                case 7:
                    seeKnots();
                    break;
                case 8:
                    seeOrder();
                    break;
                case 9:
                    prove();
                    break;
                default:
                    small(s);
            }
        }

        void rows() {
            int a = random.nextInt(5) - 1;
            int b = random.nextInt(5) - 1;
            int k = random.nextInt(40) == 0 ? 20 : 1 + random.nextInt(3);
            int l = random.nextInt(40) == 0 ? -1 : 1 + random.nextInt(3);
            int i = random.nextInt(8) - 1;
            int j = random.nextInt(8) - 1;
            int n = random.nextInt(20) == 0 ? Integer.MAX_VALUE : random.nextInt(9) - 1;
            long v = random.nextLong() >> random.nextInt(64);
            switch (random.nextInt(6)) {
                case 0:
                    due(name, "row(" + a + ", " + k + ", " + 5 * n + ")", () -> t.row(a, k, 5 * n),
                            () -> m.row(a, k, 5 * n));
                    break;
                case 1:
                    due(name, "put(" + a + ", " + k + ", " + i + ", " + v + ")", () -> t.put(a, k, i, v),
                            () -> m.put(a, k, i, v));
                    break;
                case 2:
                    due(name, "copy(" + a + ", " + k + ", " + i + ", " + b + ", " + l + ", " + j + ", " + n + ")",
                            () -> t.copy(a, k, i, b, l, j, n), () -> m.copy(a, k, i, b, l, j, n));
                    break;
                case 3:
                    due(name, "tear(" + a + ", " + k + ")", () -> t.tear(a, k), () -> m.tear(a, k));
                    break;
                case 4:
                    due(name, "box(" + i + ")", () -> t.box(i), () -> m.box(i));
                    break;
                default:
                    due(name, "lay(" + i + ", " + a + ", " + k + ", " + j + ", " + n + ")",
                            () -> t.lay(i, a, k, j, n), () -> m.lay(i, a, k, j, n));
            }
        }

        void seeCrossings(int s) {
            due(name, "crossings(" + s + ")", () -> t.crossings(s), () -> m.crossings(s));
            int n = m.all().contains(s) ? m.crossings(s) : 1;
            MET[0] += n;
            int from = n > 6 ? random.nextInt(n - 5) : -1;
            for (int k = from; k <= Math.min(n, from + 5); k++) {
                int at = k;
                for (int what = -1; what <= 4; what++) {
                    int w = what;
                    due(name, "crossing(" + s + ", " + at + ", " + w + ")", () -> t.crossing(s, at, w),
                            () -> m.crossing(s, at, w));
                }
                int w = random.nextInt(12) == 0 ? within(3) : random.nextInt(2);
                due(name, "print(" + s + ", " + at + ", " + w + ")", () -> t.print(s, at, w),
                        () -> m.print(s, at, w));
                for (int o = -1; o <= m.page.length(); o++) {
                    int octet = o;
                    due(name, "octet(" + octet + ")", () -> t.octet(octet), () -> m.octet(octet));
                }
            }
        }

        boolean modelCanTell() {
            int held = 0;
            for (TreeSet<Integer> knot : m.knotSets()) {
                if (knot.size() > 12) {
                    return true;
                }
                held += knot.size();
            }
            return held <= 13;
        }

        void seeKnots() {
            due(name, "knots()", () -> t.knots(), () -> m.knots());
            MET[1] += m.knots();
            for (int k = -1; k <= m.knots(); k++) {
                int knot = k;
                int size = k >= 0 && k < m.knots() ? m.knotSets().get(k).size() : 0;
                MET[2] = Math.max(MET[2], size);
                for (int i = -1; i <= size; i++) {
                    for (int what = 0; what <= 2; what++) {
                        int at = i;
                        int w = what;
                        if (what == 1 && size > 0 && m.ring(m.knotSets().get(k)).size() > MET[3]) {
                            MET[3] = m.ring(m.knotSets().get(k)).size();
                        }
                        due(name, "knot(" + knot + ", " + w + ", " + at + ")", () -> t.knot(knot, w, at),
                                () -> m.knot(knot, w, at));
                    }
                }
            }
            if (modelCanTell()) {
                due(name, "fewest()", () -> t.fewest(), () -> m.fewest());
                m.findFew();
                MET[4] = Math.max(MET[4], m.few.size());
                MET[5] += m.fewWorth < 0 ? 1 : 0;
                for (int i = -1; i <= m.few.size(); i++) {
                    int at = i;
                    due(name, "few(" + at + ")", () -> t.few(at), () -> m.few(at));
                }
            }
        }

        void seeOrder() {
            int n = m.lifted(m.all()).size();
            for (int k = -1; k <= n; k++) {
                int at = k;
                due(name, "order(" + at + ")", () -> t.order(at), () -> m.order(at));
            }
            for (int s = -1; s <= m.given; s++) {
                int at = s;
                due(name, "layer(" + at + ")", () -> t.layer(at), () -> m.layer(at));
                due(name, "after(" + at + ")", () -> t.after(at), () -> m.after(at));
            }
            if (m.knots() == 0) {
                for (int s : m.all()) {
                    MET[6] = Math.max(MET[6], m.depth(s));
                }
            }
        }

        void prove() {
            List<Integer> row;
            int how = random.nextInt(30) == 0 ? within(3) : random.nextInt(2);
            if (how == 1 && m.knots() > 0 && random.nextInt(4) > 0) {
                row = new ArrayList<>(m.ring(m.knotSets().get(random.nextInt(m.knots()))));
            } else {
                row = m.lifted(m.all());
            }
            int spoil = random.nextInt(8);
            if (spoil == 0 && !row.isEmpty()) {
                row.remove(random.nextInt(row.size()));
            } else if (spoil == 1) {
                row.add(random.nextInt(row.size() + 1), number());
            } else if (spoil == 2 && row.size() > 1) {
                Collections.swap(row, 0, random.nextInt(row.size()));
            } else if (spoil == 3) {
                row.clear();
            } else if (spoil == 4) {
                Collections.rotate(row, 1);
            }
            for (int s : row) {
                due(name, "push(" + s + ")", () -> t.push(s), () -> m.push(s));
            }
            due(name, "check(" + how + ")", () -> t.check(how), () -> m.check(how));
        }

        void small(int s) {
            int other = here();
            int what = random.nextInt(16) - 1;
            switch (random.nextInt(5)) {
                case 0:
                    due(name, "bars(" + s + ", " + other + ")", () -> bit(t.bars(s, other)), () -> m.bars(s, other));
                    break;
                case 1:
                    due(name, "free(" + s + ")", () -> bit(t.free(s)), () -> m.free(s));
                    break;
                case 2:
                    due(name, "told(" + s + ", " + what + ")", () -> t.told(s, what), () -> m.told(s, what));
                    break;
                case 3:
                    due(name, "count(" + what + ")", () -> t.count(what), () -> m.count(what));
                    break;
                default:
                    due(name, "count(5)", () -> t.count(5), () -> m.count(5));
            }
        }
    }

    public static void main(String[] args) {
        int runs = args.length > 0 ? Integer.parseInt(args[0]) : 120;
        long seed = args.length > 1 ? Long.parseLong(args[1]) : 1;
        int[] fars = {3, 6, 15, 100, 1000};
        int[] steeps = {1, 2, 5, 100};
        for (int i = 0; i < runs; i++) {
            int far = fars[i % 5];
            int steep = steeps[i % 4];
            int most = new int[] {4, 9, 14, 7, 22, 11, 18}[i % 7];
            new Run(seed + i, far, steep, most, i % 3 * 4, i % 6 > 3).start();
        }
        for (int i = 0; i < runs / 10; i++) {
            new Run(seed + i, fars[i % 5], steeps[i % 4], 40, i % 3 * 4, false).crowd();
        }
        for (int i = 0; i < runs / 2; i++) {
            new Run(seed + i, fars[i % 5], steeps[i % 4], 40, i % 3 * 4, i % 6 > 3).wild();
        }
        for (int i = 0; i < runs / 4; i++) {
            new Run(seed + i, 300, steeps[i % 4], 40, 0, false).circles();
        }
        System.out.println(calls + " calls; crossings " + MET[0] + ", knots " + MET[1] + ", greatest " + MET[2]
                + ", longest ring " + MET[3] + ", most few " + MET[4] + ", too great " + MET[5] + ", deepest layer "
                + MET[6] + ", fullest table " + MET[7]);
        System.out.println(wrong == 0 ? "all answers are as due" : wrong + " answers are not as due");
        boolean metAll = MET[0] > 500 && MET[1] > 100 && MET[2] > 12 && MET[3] >= 10 && MET[4] >= 3 && MET[5] > 0
                && MET[6] >= 5 && MET[7] == 40;
        if (args.length == 0 && !metAll) {
            System.out.println("the drawn runs met too little");
        }
        if (wrong != 0 || (args.length == 0 && !metAll)) {
            System.exit(1);
        }
    }
}
