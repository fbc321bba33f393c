/** For each sentence on sticks and acts that names a boundary case, a test of its own (promises 7 to 15). */
public final class SpillikinTableStickBounds extends TableCheck {
    private static final int LEAST = Integer.MIN_VALUE;
    private static final int GREATEST = Integer.MAX_VALUE;
    private static final long[] HOOK = {1, 2, 3, 14, 25, 36, 47, -58, 69};

    /** All that can be seen of a table with few sticks: counts, sticks, page. */
    private static String seen(SpillikinTable t) {
        StringBuilder text = new StringBuilder();
        for (int what = 0; what <= 5; what++) {
            text.append(t.count(what)).append(' ');
        }
        for (int s = t.after(NONE); s != NONE; s = t.after(s)) {
            text.append('|').append(s);
            for (int what = 0; what < 7 + 3 * t.told(s, 3); what++) {
                text.append(' ').append(t.told(s, what));
            }
        }
        return text.append('|').append(page(t)).toString();
    }

    /** Sticks side by side: stick i from (0, i, 0) to (1, i, 0), made of row 0. */
    private static SpillikinTable sideBySide(int n) {
        SpillikinTable t = table();
        t.row(0, 0, 6);
        t.put(0, 0, 3, 1);
        for (int i = 0; i < n; i++) {
            t.put(0, 0, 1, i);
            t.put(0, 0, 4, i);
            t.lay(0, 0, 0, 0, 1);
        }
        return t;
    }

    /** Sticks side by side in another row, so that row 0 keeps its numbers. */
    private static int layFrom(SpillikinTable t, int k, int kind, long... numbers) {
        t.row(0, k, numbers.length);
        for (int i = 0; i < numbers.length; i++) {
            t.put(0, k, i, numbers[i]);
        }
        return t.lay(kind, 0, k, 0, 1);
    }

    static void numbersBeyond() {
        says(7, "a POINT (x, y, z), each -1000 to 1000; -3 a number is beyond");
        for (int kind = 0; kind <= 1; kind++) {
            int n = kind == 1 ? 9 : 6;
            for (int i = 0; i < n; i++) {
                SpillikinTable t = table();
                long[] numbers = java.util.Arrays.copyOf(HOOK, n);
                for (long v : new long[] {1001, -1001, 1L << 32, (1L << 32) + 5, Long.MAX_VALUE, Long.MIN_VALUE}) {
                    numbers[i] = v;
                    is("kind " + kind + ", place " + i + ": " + v, lay(t, kind, 0, 1, numbers), -3);
                }
                is("none came", t.count(2), 0);
                for (int s = 0; s < 2; s++) {
                    numbers[i] = s == 0 ? 1000 : -1000;
                    is("kind " + kind + ", place " + i + ": " + numbers[i], lay(t, kind, 0, 1, numbers), s);
                    is("told", t.told(s, 4 + i), numbers[i]);
                    t.away(s);
                }
            }
        }
    }

    static void kinds() {
        says(7, "IllegalArgumentException: no such KIND");
        SpillikinTable t = sideBySide(0);
        for (int kind : new int[] {LEAST, -1, 4, GREATEST}) {
            noArgument("kind " + kind, () -> t.lay(kind, 0, 0, 0, 1));
        }
        is("none came", t.count(2), 0);
    }

    static void marks() {
        says(7, "a MARK that is not 0 to 127 (0 of KINDS 0, 1)");
        SpillikinTable t = table();
        stick(t, 0, 0, 0, 1, 0, 0, 1, 1, 0);
        t.away(0);
        for (int kind = 0; kind < 4; kind++) {
            int some = kind;
            int worth = kind == 3 ? 2 : 1;
            for (int mark : new int[] {LEAST, -1, 128, GREATEST}) {
                noArgument("kind " + kind + ", mark " + mark, () -> t.lay(some, 0, 0, mark, worth));
            }
            if (kind < 2) {
                noArgument("kind " + kind + ", mark 1", () -> t.lay(some, 0, 0, 1, worth));
                noArgument("kind " + kind + ", mark 127", () -> t.lay(some, 0, 0, 127, worth));
            }
            for (int mark : kind < 2 ? new int[] {0} : new int[] {0, 1, 127}) {
                int s = t.lay(kind, 0, 0, mark, worth);
                is("kind " + kind + ", mark " + mark, t.told(s, 1), mark);
                t.away(s);
            }
        }
        is("count(2)", t.count(2), 9);
    }

    static void worths() {
        says(7, "a WORTH that is not 2 to 100 of a DEAR one, 1 of others");
        SpillikinTable t = table();
        stick(t, 0, 0, 0, 1, 0, 0, 1, 1, 0);
        t.away(0);
        for (int kind = 0; kind < 3; kind++) {
            int some = kind;
            for (int worth : new int[] {LEAST, -1, 0, 2, 100, GREATEST}) {
                noArgument("kind " + kind + ", worth " + worth, () -> t.lay(some, 0, 0, 0, worth));
            }
            int s = t.lay(kind, 0, 0, 0, 1);
            is("kind " + kind + ", worth 1", t.told(s, 2), 1);
            t.away(s);
        }
        for (int worth : new int[] {LEAST, -2, 0, 1, 101, GREATEST}) {
            noArgument("a dear one, worth " + worth, () -> t.lay(3, 0, 0, 0, worth));
        }
        for (int worth : new int[] {2, 3, 99, 100}) {
            int s = t.lay(3, 0, 0, 0, worth);
            is("a dear one, worth " + worth, t.told(s, 2), worth);
            t.away(s);
        }
        noArgument("of a missing row", () -> t.lay(0, 0, 5, 0, 2));
        is("count(2)", t.count(2), 8);
    }

    static void missingRow() {
        says(7, "-1 it is missing");
        SpillikinTable t = table();
        for (int kind = 0; kind < 4; kind++) {
            is("kind " + kind, t.lay(kind, 0, 0, 0, kind == 3 ? 2 : 1), -1);
        }
        is("none came", t.count(2), 0);
    }

    static void shortRow() {
        says(7, "-2 it has fewer than 6 numbers (a HOOK 9; more are not looked at)");
        for (int n = 0; n <= 10; n++) {
            SpillikinTable t = table();
            long[] numbers = java.util.Arrays.copyOf(HOOK, n);
            if (n == 10) {
                numbers[9] = Long.MAX_VALUE;
            }
            is("a hook of " + n, lay(t, 1, 0, 1, numbers), n < 9 ? -2 : 0);
            t.undo();
            is("a stick of " + n, lay(t, 0, 0, 1, numbers), n < 6 ? -2 : n < 9 ? 0 : 1);
            t.undo();
            is("a marked one of " + n, lay(t, 2, 5, 1, numbers), n < 6 ? -2 : n < 9 ? 1 : 2);
            t.undo();
            is("a dear one of " + n, lay(t, 3, 5, 9, numbers), n < 6 ? -2 : n < 9 ? 2 : 3);
        }
        SpillikinTable t = table();
        is("a stick's seventh beyond", lay(t, 0, 0, 1, 0, 0, 0, 1, 0, 0, 1001), 0);
        is("a stick's third point as its second", lay(t, 0, 0, 1, 0, 5, 0, 1, 5, 0, 1, 5, 0), 1);
        is("a hook's tenth beyond", lay(t, 1, 0, 1, 0, 9, 0, 1, 9, 0, 1, 9, 1, -1001), 2);
        is("a hook's first nine", t.told(2, 12), 1);
    }

    static void samePoints() {
        says(7, "-4 two POINTS that a PIECE is between are the same");
        SpillikinTable t = table();
        is("a stick's", stick(t, 5, 6, 7, 5, 6, 7), -4);
        is("a marked one's", lay(t, 2, 1, 1, 0, 0, 0, 0, 0, 0), -4);
        is("a dear one's", lay(t, 3, 1, 2, 0, 0, 0, 0, 0, 0), -4);
        is("a hook's first two", stick(t, 1, 1, 1, 1, 1, 1, 2, 2, 2), -4);
        is("a hook's last two", stick(t, 1, 1, 1, 2, 2, 2, 2, 2, 2), -4);
        is("all of a hook's", stick(t, 1, 1, 1, 1, 1, 1, 1, 1, 1), -4);
        for (int axis = 0; axis < 3; axis++) {
            long[] numbers = {5, 6, 7, 5, 6, 7};
            numbers[3 + axis]++;
            is("unlike on axis " + axis, stick(t, numbers), axis);
            t.away(axis);
        }
    }

    static void foldedHooks() {
        says(7, "or the two PIECES of a HOOK have another POINT in common than its second (they lie one on the other)");
        SpillikinTable t = table();
        is("there and back", stick(t, 0, 0, 0, 3, 3, 3, 0, 0, 0), -4);
        is("there and half back", stick(t, 0, 0, 0, 4, 0, 0, 2, 0, 0), -4);
        is("there and beyond", stick(t, 0, 0, 0, 0, 4, 0, 0, -9, 0), -4);
        is("a little back", stick(t, -1000, -1000, -1000, 1000, 1000, 1000, 999, 999, 999), -4);
        is("aslant", stick(t, 0, 0, 0, 30, -60, 90, 10, -20, 30), -4);
        is("straight on", stick(t, 0, 0, 0, 30, -60, 90, 40, -80, 120), 0);
        is("nearly back", stick(t, -1000, 500, 0, 1000, 500, 0, -1000, 501, 0), 1);
        is("bent back", stick(t, 0, 900, 0, 9, 900, 0, 0, 901, 0), 2);
        SpillikinTable far = table();
        is("nearly back, far out", stick(far, -1000, -1000, -1000, 1000, 1000, 1000, -1000, -1000, -999), 0);
    }

    static void tableFull() {
        says(7, "40 on the table at most; -5 there are 40");
        SpillikinTable t = sideBySide(40);
        is("count(1)", t.count(1), 40);
        is("a 41st", layFrom(t, 1, 0, 0, 99, 0, 1, 99, 0), -5);
        is("a 41st, a hook", layFrom(t, 1, 1, 0, 99, 0, 1, 99, 0, 1, 99, 9), -5);
        is("none came", t.count(1) * 1000 + t.count(2), 40040);
        t.away(17);
        is("with 39", layFrom(t, 1, 0, 0, 99, 0, 1, 99, 0), 40);
        is("full again", layFrom(t, 1, 0, 0, 999, 0, 1, 999, 0), -5);
        is("undone", t.undo(), 1);
        is("with 39 again", t.lay(0, 0, 1, 0, 1), 41);
        t.undo();
        t.undo();
        is("an undone away fills it", t.count(1), 40);
        is("full once more", t.lay(0, 0, 1, 0, 1), -5);
    }

    static void hundredGiven() {
        says(7, "numbered from 0 on as they are laid, 100 in all at most; -5 there were 100");
        SpillikinTable t = sideBySide(0);
        for (int i = 0; i < 100; i++) {
            is("lay", t.lay(0, 0, 0, 0, 1), i);
            if (i % 2 == 0) {
                t.away(i);
            } else {
                t.undo();
            }
        }
        is("the table is empty", t.count(1), 0);
        is("a 101st", t.lay(0, 0, 0, 0, 1), -5);
        is("count(2)", t.count(2), 100);
        t.undo();
        is("one is back", t.after(NONE), 98);
        is("a 101st still", layFrom(t, 1, 0, 0, 99, 0, 1, 99, 0), -5);
        for (int s : new int[] {99, 100, 101}) {
            noStick("stick " + s, () -> t.told(s, 0));
            noStick("layer of " + s, () -> t.layer(s));
            is("a proof of " + s, t.push(s), 1);
            is("its check", t.check(0), 0);
        }
        is("after(98)", t.after(98), NONE);
        is("pairs", t.count(5), 0);
        is("a missing row", t.lay(0, 0, 3, 0, 1), -1);
        is("a number beyond", layFrom(t, 1, 0, 0, 1001, 0, 1, 99, 0), -3);
        is("one that touches", t.lay(0, 0, 0, 0, 1), -5);
    }

    static void touchedSticks() {
        says(7, "-10 less the least number of a STICK on the table with which it has a point in common");
        SpillikinTable t = sideBySide(4);
        is("all of them", layFrom(t, 1, 0, 0, -5, 0, 0, 50, 0), -10);
        is("all of them, from the last on", layFrom(t, 1, 0, 0, 50, 0, 0, -5, 0), -10);
        is("the last two", layFrom(t, 1, 0, 1, 3, 0, 1, 2, 0), -12);
        is("the last alone", layFrom(t, 1, 0, 1, 9, 0, 1, 3, 0), -13);
        t.away(0);
        is("not one that is away", layFrom(t, 1, 0, 0, 50, 0, 0, -5, 0), -11);
        is("where that was", layFrom(t, 1, 0, 0, 0, 0, 1, 0, 0), 4);
        is("the least number, not the first met", layFrom(t, 1, 1, 0, 0, -1, 0, 0, 1, 0, 1, -1), -14);
        is("a hook's second piece", layFrom(t, 1, 1, 9, 9, 9, 9, 9, 0, 0, 1, 0), -11);
        is("a hook's both pieces, the second the lesser", layFrom(t, 1, 1, 0, 3, -1, 0, 3, 1, 0, 1, -1), -12);
        is("none came", t.count(2), 5);
        SpillikinTable late = sideBySide(0);
        for (int i = 0; i < 99; i++) {
            late.lay(0, 0, 0, 0, 1);
            late.away(i);
        }
        is("the last number", late.lay(0, 0, 0, 0, 1), 99);
        is("moved onto itself", late.move(99, 0, 0, 0), 1);
        SpillikinTable next = sideBySide(0);
        for (int i = 0; i < 98; i++) {
            next.lay(0, 0, 0, 0, 1);
            next.away(i);
        }
        next.lay(0, 0, 0, 0, 1);
        is("less 98", next.lay(0, 0, 0, 0, 1), -108);
        next.put(0, 0, 1, 5);
        next.put(0, 0, 4, 5);
        next.lay(0, 0, 0, 0, 1);
        is("less 99", next.move(98, 0, 5, 0), -109);
    }

    static void pointsInCommon() {
        says(7, "a point in common: at ends, in the middle, in one line");
        SpillikinTable t = table();
        stick(t, 0, 0, 0, 6, 9, 12);
        long[][] touching = {{0, 0, 0, -5, 1, 1}, {-5, 1, 1, 0, 0, 0}, {6, 9, 12, 7, 7, 7}, {7, 7, 7, 6, 9, 12},
            {2, 3, 4, 2, 3, 9}, {2, 3, 9, 2, 3, 4}, {1, 3, 4, 3, 3, 4}, {2, 3, 3, 2, 3, 6}, {0, 1, 2, 2, 2, 2},
            {6, 9, 12, 8, 12, 16}, {-2, -3, -4, 0, 0, 0}, {2, 3, 4, 4, 6, 8}, {-2, -3, -4, 8, 12, 16},
            {4, 6, 8, 8, 12, 16}, {0, 0, 0, 6, 9, 12}, {6, 9, 12, 0, 0, 0}};
        for (long[] numbers : touching) {
            is("touching " + java.util.Arrays.toString(numbers), stick(t, numbers), -10);
        }
        long[][] apart = {{8, 12, 16, 10, 15, 20}, {-2, -3, -4, -4, -6, -8}, {2, 3, 5, 2, 3, 9}, {0, 0, 1, 6, 9, 13},
            {1, 2, 2, 1, 9, 2}, {7, 9, 12, 9, 9, 12}, {-1, 0, 0, -1, 5, 5}, {0, 1, 1, 2, 2, 2}};
        for (long[] numbers : apart) {
            int s = stick(t, numbers);
            is("apart " + java.util.Arrays.toString(numbers), s > 0, true);
            if (s > 0) {
                t.away(s);
            }
        }
        SpillikinTable far = table();
        stick(far, -1000, -1000, -1000, 1000, 1000, 1000);
        is("in the middle, far out", stick(far, -1000, 1000, -999, 1000, -1000, 999), -10);
        is("near the middle, far out", stick(far, -1000, 1000, -999, 1000, -1000, 1000), 1);
    }

    static void firstReason() {
        says(7, "A ROW makes none, the first of these");
        SpillikinTable t = table();
        stick(t, 0, 0, 0, 9, 0, 0);
        is("short and beyond", layFrom(t, 1, 0, 2000, 0, 0, 1, 0), -2);
        is("short and the same", layFrom(t, 1, 1, 5, 5, 5, 5, 5, 5, 5, 5), -2);
        is("beyond and the same", layFrom(t, 1, 0, 2000, 0, 0, 2000, 0, 0), -3);
        is("the same, then beyond", layFrom(t, 1, 1, 1, 1, 1, 1, 1, 1, 1, 1, 1001), -3);
        is("beyond and touching", layFrom(t, 1, 0, 5, 0, 0, 5, 0, 1001), -3);
        is("the same and touching", layFrom(t, 1, 0, 5, 0, 0, 5, 0, 0), -4);
        is("folded and touching", layFrom(t, 1, 1, 5, 0, 0, 5, 5, 0, 5, 0, 0), -4);
        SpillikinTable full = sideBySide(40);
        is("missing and full", full.lay(0, 0, 1, 0, 1), -1);
        is("short and full", layFrom(full, 1, 0, 1, 2, 3), -2);
        is("beyond and full", layFrom(full, 1, 0, 1001, 2, 3, 0, 0, 0), -3);
        is("the same and full", layFrom(full, 1, 0, 1, 2, 3, 1, 2, 3), -4);
        is("folded and full", layFrom(full, 1, 1, 1, 2, 3, 1, 2, 4, 1, 2, 3), -4);
        is("full and touching", layFrom(full, 1, 0, 0, 0, 0, 0, 1, 0), -5);
    }

    static void refusedLays() {
        says(7, "its number, or why not: a refused one is no act and gives no number");
        SpillikinTable t = pile();
        t.print(0, 0, 0);
        t.row(0, 1, 3);
        String before = seen(t);
        is("-1", t.lay(0, 0, 5, 0, 1), -1);
        is("-2", t.lay(0, 0, 1, 0, 1), -2);
        is("-3", layFrom(t, 2, 0, 0, 0, 0, 0, 0, 2000), -3);
        is("-4", layFrom(t, 2, 0, 0, 0, 0, 0, 0, 0), -4);
        is("-11", layFrom(t, 2, 0, 0, 0, 5, 1, 1, 1), -11);
        noArgument("no kind", () -> t.lay(7, 0, 2, 0, 1));
        noBox("no row", () -> t.lay(0, 0, 20, 0, 1));
        is("all that is seen", seen(t), before);
        is("the next number", layFrom(t, 2, 0, 500, 0, 0, 500, 0, 1), 3);
    }

    static void movesBeyond() {
        says(8, "-3 as in 1 (for its new place)");
        SpillikinTable t = table();
        stick(t, -10, -20, -30, 10, 20, 30, 0, 5, 7);
        String before = seen(t);
        int[] most = {990, 980, 970};
        for (int axis = 0; axis < 3; axis++) {
            int[] far = {most[axis] + 1, -most[axis] - 1, 2000, 5000, 1 << 30, LEAST, LEAST + 10, GREATEST, GREATEST - 10};
            for (int by : far) {
                is("axis " + axis + " by " + by,
                        t.move(0, axis == 0 ? by : 0, axis == 1 ? by : 0, axis == 2 ? by : 0), -3);
            }
        }
        is("all that is seen", seen(t), before);
        for (int axis = 0; axis < 3; axis++) {
            is("to the far edge", t.move(0, axis == 0 ? 990 : 0, axis == 1 ? 980 : 0, axis == 2 ? 970 : 0), 1);
            is("there", t.told(0, 7 + axis), 1000);
            is("to the near edge", t.move(0, axis == 0 ? -1980 : 0, axis == 1 ? -1960 : 0, axis == 2 ? -1940 : 0), 1);
            is("there", t.told(0, 4 + axis), -1000);
        }
        SpillikinTable bend = table();
        stick(bend, 0, 0, 0, 1, 1, 1, 20, 0, 0);
        is("a hook's third POINT beyond", bend.move(0, 981, 0, 0), -3);
        is("a hook's third POINT at the edge", bend.move(0, 980, 0, 0), 1);
        bend.away(0);
        stick(bend, -1000, 1000, 0, 1000, -1000, 0);
        is("from edge to edge", bend.move(1, 0, 0, -1000), 1);
        is("no farther", bend.move(1, 1, 0, 0), -3);
    }

    static void movesOntoOthers() {
        says(8, "-10 and on as in 1 (for its new place, without itself)");
        SpillikinTable t = sideBySide(4);
        String before = seen(t);
        is("onto the next", t.move(0, 0, 1, 0), -11);
        is("onto the last", t.move(0, 1, 3, 0), -13);
        is("onto the first", t.move(3, 0, -3, 0), -10);
        is("beyond, and through others", t.move(0, 0, 1001, 0), -3);
        is("all that is seen", seen(t), before);
        is("by 0", t.move(1, 0, 0, 0), 1);
        is("along itself", t.move(1, 1, 0, 0), 1);
        is("past others", t.move(0, 0, 500, 0), 1);
        is("where one was", t.move(1, -1, -1, 0), 1);
        t.away(2);
        is("where one is away", t.move(1, 0, 2, 0), 1);
        SpillikinTable crossed = table();
        stick(crossed, 0, 0, 0, 0, 10, 0);
        stick(crossed, 5, 0, 0, 5, 10, 0);
        stick(crossed, -9, 5, 3, 9, 5, 3);
        is("the least of two", crossed.move(2, 0, 0, -3), -10);
        is("the other alone", crossed.move(2, 11, 0, -3), -11);
    }

    static void notOnTheTable() {
        says(8, "NoSuchElementException: it is not on the table (so below)");
        SpillikinTable t = pile();
        t.away(1);
        stick(t, 100, 0, 0, 101, 0, 0);
        t.undo();
        for (int s : new int[] {NONE, 1, 3, 4, 99, 100, LEAST, GREATEST}) {
            String of = " of " + s;
            noStick("move" + of, () -> t.move(s, 0, 0, 0));
            noStick("move, beyond," + of, () -> t.move(s, 5000, 0, 0));
            noStick("away" + of, () -> t.away(s));
            noStick("lift" + of, () -> t.lift(s));
            noStick("told" + of, () -> t.told(s, 0));
            noStick("told of no what" + of, () -> t.told(s, -1));
            noStick("bars first" + of, () -> t.bars(s, 0));
            noStick("bars second" + of, () -> t.bars(0, s));
            noStick("bars" + of, () -> t.bars(s, s));
            noStick("crossings" + of, () -> t.crossings(s));
            noStick("crossing" + of, () -> t.crossing(s, 0, 0));
            noStick("crossing -1" + of, () -> t.crossing(s, -1, -1));
            noStick("print" + of, () -> t.print(s, 0, 0));
            noStick("print of no what" + of, () -> t.print(s, 0, 2));
            noStick("free" + of, () -> t.free(s));
            noStick("layer" + of, () -> t.layer(s));
        }
        is("nothing changes", seen(t), "1 2 4 0 4 0 |0 0 0 1 1 -10 0 0 10 0 0|2 0 0 1 1 -10 1 9 10 1 9|");
        SpillikinTable knot = ring(1, 0);
        noStick("layer where there is a KNOT", () -> knot.layer(3));
    }

    static void takenAway() {
        says(9, "A STICK is taken away, whatever bars it: how many are left.");
        SpillikinTable t = ring(1, 0);
        is("of a knot", t.away(0), 2);
        is("one that is barred", t.away(2), 1);
        is("the last", t.away(1), 0);
        noStick("none", () -> t.away(1));
        is("of forty", sideBySide(40).away(0), 39);
    }

    static void liftedOrNot() {
        says(10, "It is taken away if it is FREE: true; else false, and nothing changes.");
        SpillikinTable t = pile();
        t.print(0, 0, 0);
        String before = seen(t);
        is("barred", t.lift(0), false);
        is("barred by one", t.lift(1), false);
        is("all that is seen", seen(t), before);
        is("FREE", t.lift(2), true);
        is("free then", t.lift(1), true);
        is("the last", t.lift(0), true);
        is("none is left", t.count(1), 0);
        SpillikinTable knot = twoHooks();
        is("the first of a knot", knot.lift(0), false);
        is("the second of a knot", knot.lift(1), false);
        is("both are there", knot.count(1), 2);
        is("no act more", knot.count(4), 2);
        SpillikinTable alone = sideBySide(1);
        is("one alone", alone.lift(0), true);
    }

    static void directions() {
        says(11, "three whole numbers -100 to 100, not all 0; IllegalArgumentException: it is none.");
        SpillikinTable t = table();
        stick(t, 0, 0, 0, 0, 0, 1);
        stick(t, 1, -1, 1, 1, -1, 2);
        t.turn(100, -100, 100);
        is("along 100, -100, 100", t.bars(1, 0), true);
        t.print(0, 0, 1);
        is("HEIGHT", page(t), "1/100");
        noArgument("0, 0, 0", () -> t.turn(0, 0, 0));
        for (int axis = 0; axis < 3; axis++) {
            for (int by : new int[] {101, -101, 1000, LEAST, GREATEST}) {
                int at = axis;
                noArgument("axis " + axis + ": " + by,
                        () -> t.turn(at == 0 ? by : 1, at == 1 ? by : 1, at == 2 ? by : 1));
                noArgument("axis " + axis + " alone: " + by,
                        () -> t.turn(at == 0 ? by : 0, at == 1 ? by : 0, at == 2 ? by : 0));
            }
        }
        is("it has stayed", t.bars(1, 0), true);
        is("with its HEIGHT", t.print(0, 0, 1), 5);
        t.turn(-100, 100, -100);
        is("along -100, 100, -100", t.bars(0, 1), true);
        for (int axis = 0; axis < 3; axis++) {
            for (int by : new int[] {1, -1, 100, -100}) {
                SpillikinTable line = table();
                long[] numbers = {0, 0, 0, 0, 0, 0};
                numbers[axis] = 10;
                numbers[3 + axis] = 11;
                stick(line, 0, 0, 0, axis == 0 ? 1 : 0, axis == 1 ? 1 : 0, axis == 2 ? 1 : 0);
                stick(line, numbers);
                line.turn(axis == 0 ? by : 0, axis == 1 ? by : 0, axis == 2 ? by : 0);
                is("axis " + axis + " alone: " + by, line.bars(by > 0 ? 1 : 0, by > 0 ? 0 : 1), true);
                is("one bars the other", line.count(5), 1);
            }
        }
        is("it is no act", t.count(4), 2);
        t.undo();
        stick(t, 1, -1, 1, 1, -1, 2);
        is("undo() leaves it", t.bars(0, 2), true);
    }

    static void nothingToUndo() {
        says(12, "NONE without one");
        SpillikinTable t = table();
        is("at first", t.undo(), NONE);
        stick(t, 1, 2, 3, 4, 5, 6);
        is("lay", t.undo(), 1);
        is("then", t.undo(), NONE);
        is("and again", t.undo(), NONE);
        is("count(4)", t.count(4), 0);
        is("a stick then", stick(t, 1, 2, 3, 4, 5, 6), 1);
        is("its act", t.count(4), 1);
    }

    static void eightActs() {
        says(12, "The latest of the latest 8 acts is undone");
        for (int acts = 6; acts <= 26; acts++) {
            SpillikinTable t = table();
            stick(t, 0, 0, 0, 1, 0, 0);
            for (int i = 1; i < acts; i++) {
                t.move(0, 0, 1, 2);
            }
            int kept = Math.min(acts, 8);
            is("kept of " + acts, t.count(4), kept);
            for (int i = 1; i < kept; i++) {
                is("undo", t.undo(), 2);
                is("y", t.told(0, 5), acts - 1 - i);
                is("z", t.told(0, 6), 2 * (acts - 1 - i));
                is("left", t.count(4), kept - i);
            }
            is("the eighth of " + acts, t.undo(), acts <= 8 ? 1 : 2);
            is("no more", t.undo(), NONE);
        }
        SpillikinTable round = table();
        stick(round, 0, 0, 0, 1, 0, 0);
        for (int i = 1; i < 60; i++) {
            round.move(0, 0, i, 0);
            if (i % 3 == 0) {
                round.undo();
                round.undo();
            }
        }
        is("of three one is kept", round.count(4), 8);
        int y = round.told(0, 5);
        for (int by : new int[] {59, 58, 55, 52, 49, 46, 43, 40}) {
            y -= by;
            is("undo of the move by " + by, round.undo(), 2);
            is("y then", round.told(0, 5), y);
        }
        is("no more of these", round.undo(), NONE);
    }

    static void actsThatDidSomething() {
        says(12, "(lay(), move(), away(), lift() that did something)");
        SpillikinTable t = pile();
        t.move(0, 0, 0, 1);
        is("four acts", t.count(4), 4);
        t.move(0, 0, 0, 4);
        t.move(0, 3000, 0, 0);
        t.lift(0);
        t.lift(1);
        t.lay(0, 0, 0, 0, 1);
        t.lay(0, 0, 9, 0, 1);
        t.turn(0, 1, 0);
        t.push(0);
        t.check(0);
        t.print(0, 0, 0);
        noStick("away(7)", () -> t.away(7));
        noStick("lift(7)", () -> t.lift(7));
        noStick("move(7)", () -> t.move(7, 0, 0, 0));
        noArgument("lay(9)", () -> t.lay(9, 0, 0, 0, 1));
        is("four acts still", t.count(4), 4);
        is("the move", t.undo(), 2);
        is("back", t.told(0, 6), 0);
        is("the third lay", t.undo(), 1);
        is("it is away", t.after(1), NONE);
        says(12, "1 lay, 2 move, 3 away or lift");
        t.turn(0, 0, 1);
        t.lift(1);
        t.away(0);
        is("away", t.undo(), 3);
        is("it is there", t.after(NONE), 0);
        is("lift", t.undo(), 3);
        is("it is there", t.after(0), 1);
        is("it bars again", t.bars(1, 0), true);
    }

    static void undoneWhereItWas() {
        says(12, "The latest act is undone: a STICK comes back where and as it was");
        SpillikinTable t = table();
        lay(t, 3, 127, 100, 1, 2, 3, 4, 5, 6);
        t.move(0, 10, 20, 30);
        t.away(0);
        is("another one in its place", stick(t, 11, 22, 33, 14, 25, 36), 1);
        t.undo();
        t.undo();
        is("as it was", seen(t), "1 1 2 0 2 0 |0 3 127 100 1 11 22 33 14 25 36|");
        t.undo();
        is("and ahead of its move", seen(t), "1 1 2 0 1 0 |0 3 127 100 1 1 2 3 4 5 6|");
        is("count(4)", t.count(4), 1);
    }

    static void numbersNotGivenAgain() {
        says(12, "(A number that was given is not given again.)");
        SpillikinTable t = table();
        for (int i = 0; i < 3; i++) {
            is("lay", stick(t, 1, 2, 3, 4, 5, 6), 2 * i);
            is("undone", t.undo(), 1);
            noStick("it is not there", () -> t.told(0, 0));
            is("lay", stick(t, 1, 2, 3, 4, 5, 6), 2 * i + 1);
            is("away", t.away(2 * i + 1), 0);
        }
        is("count(2)", t.count(2), 6);
    }

    static void noSuchWhat() {
        says(13, "3 PIECES, 4 + 3 i, 5 + 3 i, 6 + 3 i POINT i. IllegalArgumentException: no such what.");
        SpillikinTable t = table();
        stick(t, 1, 2, 3, 4, 5, 6);
        stick(t, HOOK[0], HOOK[1], -3, HOOK[3], HOOK[4], HOOK[5], HOOK[6], HOOK[7], HOOK[8]);
        lay(t, 2, 127, 1, 21, 2, 3, 24, 5, 6);
        lay(t, 3, 0, 100, 31, 2, 3, 34, 5, 6);
        int[] last = {9, 12, 9, 9};
        for (int s = 0; s < 4; s++) {
            int some = s;
            is("the last of " + s, t.told(s, last[s]), s == 1 ? 69 : 6);
            for (int what : new int[] {last[s] + 1, last[s] + 2, last[s] + 3, last[s] + 4, -1, LEAST, GREATEST}) {
                noArgument("told(" + s + ", " + what + ")", () -> t.told(some, what));
            }
        }
    }

    static void otherCounts() {
        says(14, "NONE for others");
        SpillikinTable t = pile();
        for (int what : new int[] {-1, 6, 7, LEAST, GREATEST}) {
            is("count(" + what + ")", t.count(what), NONE);
        }
        says(14, "1 STICKS on the table, 2 numbers given, 4 acts that can be undone (40, 100, 8 at most)");
        SpillikinTable full = sideBySide(40);
        is("count(1)", full.count(1), 40);
        is("count(2)", full.count(2), 40);
        is("count(4)", full.count(4), 8);
        is("count(5)", full.count(5), 0);
        says(14, "5 pairs of STICKS of which the first BARS the second");
        is("each the other", twoHooks().count(5), 2);
        SpillikinTable tower = table();
        tower.row(0, 0, 6);
        for (int i = 0; i < 40; i++) {
            tower.put(0, 0, 2, 2 * i);
            tower.put(0, 0, 5, 2 * i + 1);
            tower.lay(0, 0, 0, 0, 1);
        }
        is("each of forty all below it", tower.count(5), 780);
    }

    static void noneAfter() {
        says(15, "The least number of a STICK on the table above s (s NONE: of all); NONE.");
        SpillikinTable t = table();
        for (int s : new int[] {LEAST, NONE, 0, GREATEST}) {
            is("without sticks: after(" + s + ")", t.after(s), NONE);
        }
        SpillikinTable u = sideBySide(40);
        is("after(NONE)", u.after(NONE), 0);
        is("after the least", u.after(LEAST), 0);
        is("after(38)", u.after(38), 39);
        is("after(39)", u.after(39), NONE);
        is("after(100)", u.after(100), NONE);
        is("after the greatest", u.after(GREATEST), NONE);
        u.away(0);
        u.away(39);
        is("without 0", u.after(NONE), 1);
        is("after one that is away", u.after(0), 1);
        is("without 39", u.after(38), NONE);
        SpillikinTable last = sideBySide(0);
        for (int i = 0; i < 99; i++) {
            last.lay(0, 0, 0, 0, 1);
            last.away(i);
        }
        last.lay(0, 0, 0, 0, 1);
        is("the last number there is", last.after(NONE), 99);
        is("after(98)", last.after(98), 99);
        is("after(99)", last.after(99), NONE);
    }

    public static void main(String[] args) {
        numbersBeyond();
        kinds();
        marks();
        worths();
        missingRow();
        shortRow();
        samePoints();
        foldedHooks();
        tableFull();
        hundredGiven();
        touchedSticks();
        pointsInCommon();
        firstReason();
        refusedLays();
        movesBeyond();
        movesOntoOthers();
        notOnTheTable();
        takenAway();
        liftedOrNot();
        directions();
        nothingToUndo();
        eightActs();
        actsThatDidSomething();
        undoneWhereItWas();
        numbersNotGivenAgain();
        noSuchWhat();
        otherCounts();
        noneAfter();
        conclude();
    }
}
