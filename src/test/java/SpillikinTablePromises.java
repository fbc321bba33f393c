/** For each promise of the document: ordinary calls, the edges that it names, and wrong calls. */
public final class SpillikinTablePromises extends TableCheck {
    static void newObject() {
        SpillikinTable t = new SpillikinTable();
        for (int what = 0; what <= 5; what++) {
            is(1, "count(" + what + ")", t.count(what), 0);
        }
        is(1, "octet(0)", t.octet(0), NONE);
        is(1, "undo()", t.undo(), NONE);
        is(1, "after(NONE)", t.after(NONE), NONE);
        is(1, "knots()", t.knots(), 0);
        is(1, "check(0)", t.check(0), NONE);
        is(1, "direction is 0, 0, 1: bars(1, 0)", pile().bars(1, 0), true);
        SpillikinTable other = pile();
        is(1, "another object has its own sticks", t.count(1), 0);
        is(1, "a row is missing", other.tear(0, 1), NONE);
        is(1, "NONE", SpillikinTable.NONE, -1);
    }

    static void boxes() {
        SpillikinTable t = new SpillikinTable();
        noArgument(2, "box(-1)", () -> t.box(-1));
        noArgument(2, "box(3)", () -> t.box(3));
        for (int i = 0; i < 8; i++) {
            is(2, "box", t.box(i % 3), i);
            is(2, "a new row is missing", t.tear(i, 19), NONE);
        }
        refuses(2, "a ninth box", IllegalStateException.class, () -> t.box(0));
        noArgument(2, "a ninth box of no width", () -> t.box(3));
        is(2, "count(0)", t.count(0), 8);
    }

    static void rows() {
        SpillikinTable t = table();
        is(3, "row of 0", t.row(0, 0, 0), 0);
        is(3, "its place 0", t.put(0, 0, 0, 1), -2);
        is(3, "row of 30", t.row(0, 19, 30), 30);
        is(3, "its last place", t.put(0, 19, 29, 1), 1);
        is(3, "row of 31", t.row(0, 19, 31), NONE);
        is(3, "row of -1", t.row(0, 19, -1), NONE);
        is(3, "row of the least", t.row(0, 19, Integer.MIN_VALUE), NONE);
        is(3, "it has stayed", t.tear(0, 19), 30);
        is(3, "seven numbers", stick(t, 1, 1, 1, 2, 2, 2, 3), 0);
        is(3, "a new row comes", t.row(0, 0, 6), 6);
        is(3, "its numbers are 0", t.lay(0, 0, 0, 0, 1), -4);
        noBox(3, "row(1, 0, 1)", () -> t.row(1, 0, 1));
        noBox(3, "row(-1, 0, 1)", () -> t.row(-1, 0, 1));
        noBox(3, "row(0, 20, 1)", () -> t.row(0, 20, 1));
        noBox(3, "row(0, -1, -1)", () -> t.row(0, -1, -1));
        noBox(3, "row(8, 0, 1)", () -> t.row(8, 0, 1));
    }

    /** What a number becomes in a box of a width: told by a stick that ends there, or beyond. */
    static int becomes(int width, long v) {
        SpillikinTable t = new SpillikinTable();
        t.box(width);
        t.row(0, 0, 6);
        t.put(0, 0, 0, 1);
        t.put(0, 0, 3, v);
        t.put(0, 0, 4, 1);
        int s = t.lay(0, 0, 0, 0, 1);
        return s < 0 ? 10000 + s : t.told(s, 7);
    }

    static void puts() {
        is(4, "16 bits", becomes(0, 65536 + 7), 7);
        is(4, "16 bits below 0", becomes(0, 65535), -1);
        is(4, "16 bits, the sign's", becomes(0, 32768), 10000 - 3);
        is(4, "32 bits", becomes(1, (1L << 32) + 9), 9);
        is(4, "32 bits below 0", becomes(1, (1L << 32) - 5), -5);
        is(4, "32 bits, beyond", becomes(1, 65536), 10000 - 3);
        is(4, "64 bits", becomes(2, (1L << 32) + 9), 10000 - 3);
        is(4, "64 bits, the least", becomes(2, Long.MIN_VALUE), 10000 - 3);
        is(4, "64 bits, 1000", becomes(2, 1000), 1000);
        SpillikinTable t = table();
        is(4, "put in a missing row", t.put(0, 5, 0, 1), -1);
        is(4, "put in a missing row, no such place", t.put(0, 5, -1, 1), -1);
        t.row(0, 5, 3);
        is(4, "put", t.put(0, 5, 2, 1), 1);
        is(4, "put behind", t.put(0, 5, 3, 1), -2);
        is(4, "put ahead", t.put(0, 5, -1, 1), -2);
        is(4, "put at the greatest", t.put(0, 5, Integer.MAX_VALUE, 1), -2);
        noBox(4, "put in no box", () -> t.put(1, 5, 0, 1));
        noBox(4, "put in no row", () -> t.put(0, 20, 0, 1));
    }

    static void copies() {
        SpillikinTable t = table();
        t.box(2);
        t.box(1);
        t.row(0, 0, 9);
        for (int i = 0; i < 9; i++) {
            t.put(0, 0, i, 10 * i);
        }
        t.row(1, 3, 6);
        is(5, "copy", t.copy(0, 0, 2, 1, 3, 0, 6), 6);
        is(5, "lay of the copy", t.lay(0, 1, 3, 0, 1), 0);
        is(5, "x", t.told(0, 4), 20);
        is(5, "last z", t.told(0, 9), 70);
        t.away(0);
        is(5, "copy onto itself", t.copy(0, 0, 0, 0, 0, 1, 8), 8);
        is(5, "lay of it", t.lay(1, 0, 0, 0, 1), 1);
        for (int i = 0; i < 9; i++) {
            is(5, "as they were", t.told(1, 4 + i), i == 0 ? 0 : 10 * i - 10);
        }
        t.away(1);
        is(5, "copy back", t.copy(0, 0, 1, 0, 0, 0, 8), 8);
        t.put(0, 0, 0, 1);
        is(5, "lay of its first six", t.lay(0, 0, 0, 0, 1), 2);
        is(5, "the first", t.told(2, 4), 1);
        is(5, "the second as it was", t.told(2, 5), 10);
        is(5, "the sixth as it was", t.told(2, 9), 50);
        is(5, "none", t.copy(0, 0, 9, 1, 3, 6, 0), 0);
        is(5, "none from behind", t.copy(0, 0, 10, 1, 3, 0, 0), -2);
        is(5, "too many", t.copy(0, 0, 4, 1, 3, 0, 6), -2);
        is(5, "too many to", t.copy(0, 0, 0, 1, 3, 1, 6), -2);
        is(5, "greatest n", t.copy(0, 0, 1, 1, 3, 1, Integer.MAX_VALUE), -2);
        is(5, "greatest i", t.copy(0, 0, Integer.MAX_VALUE, 1, 3, 1, 1), -2);
        is(5, "i below 0", t.copy(0, 0, -1, 1, 3, 0, 1), -2);
        is(5, "j below 0", t.copy(0, 0, 0, 1, 3, -1, 1), -2);
        is(5, "n below 0", t.copy(0, 0, 0, 1, 3, 0, -1), -2);
        is(5, "from a missing one", t.copy(0, 1, 0, 1, 3, 0, -1), -1);
        is(5, "to a missing one", t.copy(0, 0, 0, 2, 0, 0, 1), -1);
        t.row(2, 0, 6);
        is(5, "unlike widths, beyond", t.copy(0, 0, 0, 2, 0, 0, 7), -2);
        is(5, "unlike widths", t.copy(0, 0, 0, 2, 0, 0, 6), -3);
        is(5, "nothing was copied", t.lay(0, 2, 0, 0, 1), -4);
        noBox(5, "from no box", () -> t.copy(3, 0, 0, 0, 0, 0, 1));
        noBox(5, "to no box", () -> t.copy(0, 0, 0, -1, 0, 0, 1));
        noBox(5, "from no row", () -> t.copy(0, -1, 0, 0, 0, 0, 1));
        noBox(5, "from a missing row to no row", () -> t.copy(0, 1, 0, 0, 20, 0, 1));
    }

    static void tears() {
        SpillikinTable t = table();
        is(6, "tear a missing row", t.tear(0, 0), NONE);
        t.row(0, 0, 0);
        is(6, "tear an empty row", t.tear(0, 0), 0);
        t.row(0, 0, 12);
        is(6, "tear", t.tear(0, 0), 12);
        is(6, "it is missing", t.put(0, 0, 0, 1), -1);
        is(6, "again", t.tear(0, 0), NONE);
        noBox(6, "no box", () -> t.tear(1, 0));
        noBox(6, "no row", () -> t.tear(0, 20));
    }

    static void lays() {
        SpillikinTable t = table();
        is(7, "of a missing row", t.lay(0, 0, 0, 0, 1), -1);
        is(7, "of five", stick(t, 1, 2, 3, 4, 5), -2);
        is(7, "a hook of eight", lay(t, 1, 0, 1, 1, 2, 3, 4, 5, 6, 7, 8), -2);
        is(7, "beyond", stick(t, 1, 2, 3, 4, 5, 1001), -3);
        is(7, "beyond below", stick(t, -1001, 2, 3, 4, 5, 6), -3);
        is(7, "beyond and two points the same", lay(t, 1, 0, 1, 1, 2, 3, 1, 2, 3, 0, 0, 2000), -3);
        is(7, "a seventh is not looked at", lay(t, 0, 0, 1, 900, 900, 1000, 900, 900, 999, 2000), 0);
        is(7, "two points the same", stick(t, 1, 2, 3, 1, 2, 3), -4);
        is(7, "a hook's first two", stick(t, 1, 2, 3, 1, 2, 3, 4, 4, 4), -4);
        is(7, "a hook's last two", stick(t, 1, 2, 3, 4, 4, 4, 4, 4, 4), -4);
        is(7, "a hook there and back", stick(t, 1, 2, 3, 4, 4, 4, 1, 2, 3), -4);
        is(7, "a hook half back", stick(t, 0, 0, 0, 4, 4, 4, 2, 2, 2), -4);
        is(7, "a hook back beyond", stick(t, 0, 0, 0, 4, 4, 4, -2, -2, -2), -4);
        is(7, "a straight hook", stick(t, 0, 0, 0, 4, 4, 4, 6, 6, 6), 1);
        is(7, "its end touched", stick(t, 6, 6, 6, 8, 8, 8), -11);
        is(7, "its end touched from afar", stick(t, 8, 8, 8, 6, 6, 6), -11);
        is(7, "its start touched", stick(t, 0, 0, 0, -1, -1, -1), -11);
        is(7, "its start touched from afar", stick(t, -1, -1, -1, 0, 0, 0), -11);
        is(7, "its middle touched", stick(t, 2, 2, 3, 2, 2, 1), -11);
        is(7, "in its line, behind it", stick(t, 7, 7, 7, 8, 8, 8), 2);
        is(7, "in its line, over both", stick(t, -9, -9, -9, 9, 9, 9), -11);
        is(7, "beside it", stick(t, 0, 0, 1, 4, 4, 5), 3);
        is(7, "a marked one", lay(t, 2, 127, 1, 100, 0, 0, 101, 0, 0), 4);
        is(7, "a dear one", lay(t, 3, 0, 100, 100, 0, 1, 101, 0, 1), 5);
        is(7, "a dear one worth 2", lay(t, 3, 5, 2, 100, 0, 2, 101, 0, 2), 6);
        is(7, "count(1)", t.count(1), 7);
        is(7, "count(2)", t.count(2), 7);
        layRefusals(t);
        layManyAndMore();
        layNarrowly();
    }

    static void layRefusals(SpillikinTable t) {
        noArgument(7, "kind -1", () -> t.lay(-1, 0, 0, 0, 1));
        noArgument(7, "kind 4", () -> t.lay(4, 0, 0, 0, 1));
        noArgument(7, "a mark of a stick", () -> t.lay(0, 0, 0, 1, 1));
        noArgument(7, "a mark of a hook", () -> t.lay(1, 0, 0, 1, 1));
        noArgument(7, "mark 128", () -> t.lay(2, 0, 0, 128, 1));
        noArgument(7, "mark -1", () -> t.lay(3, 0, 0, -1, 2));
        noArgument(7, "worth 1 of a dear one", () -> t.lay(3, 0, 0, 0, 1));
        noArgument(7, "worth 101 of a dear one", () -> t.lay(3, 0, 0, 0, 101));
        noArgument(7, "worth 2 of a marked one", () -> t.lay(2, 0, 0, 0, 2));
        noArgument(7, "worth 0", () -> t.lay(0, 0, 0, 0, 0));
        noArgument(7, "worth 1 of a dear one of a missing row", () -> t.lay(3, 0, 7, 0, 1));
        noBox(7, "no box", () -> t.lay(0, 1, 0, 0, 1));
        noBox(7, "no row", () -> t.lay(0, 0, 20, 0, 1));
        noBox(7, "no row and no kind", () -> t.lay(9, 0, 20, 0, 1));
        is(7, "nothing came", t.count(1), 7);
    }

    static void layManyAndMore() {
        SpillikinTable t = table();
        t.row(0, 0, 6);
        t.put(0, 0, 3, 1);
        for (int i = 0; i < 40; i++) {
            t.put(0, 0, 1, i);
            t.put(0, 0, 4, i);
            is(7, "lay of forty", t.lay(0, 0, 0, 0, 1), i);
        }
        is(7, "it is full, and touches", t.lay(0, 0, 0, 0, 1), -5);
        t.put(0, 0, 3, 0);
        is(7, "two points the same and full", t.lay(0, 0, 0, 0, 1), -4);
        t.put(0, 0, 3, 1);
        for (int i = 40; i < 100; i++) {
            is(7, "away", t.away(i - 1), 39);
            is(7, "lay of a hundred", t.lay(0, 0, 0, 0, 1), i);
        }
        t.away(3);
        is(7, "there were 100", t.lay(0, 0, 0, 0, 1), -5);
        is(7, "an undone one gives no number back", t.undo(), 3);
        is(7, "count(1)", t.count(1), 40);
        is(7, "count(2)", t.count(2), 100);
    }

    /** Near misses far out, which are lost where numbers are rounded or run over. */
    static void layNarrowly() {
        SpillikinTable t = table();
        stick(t, -1000, -1000, -1000, 1000, 1000, 999);
        is(7, "it does not pass through 0", stick(t, 0, 0, 0, 1, -1, 0), 1);
        is(7, "it does not pass near its end", stick(t, 999, 999, 999, 1000, 999, 999), 2);
        is(7, "it touches its end", stick(t, 1000, 1000, 999, 1000, 1000, 1000), -10);
        is(7, "the longest across", stick(t, -1000, 1000, -1000, 1000, -1000, 1000), -11);
        is(7, "the longest across, lower", stick(t, -1000, 1000, -1000, 1000, -1000, 999), -10);
        is(7, "the least of two", stick(t, 0, 0, 0, 1000, 1000, 999), -10);
    }

    static void moves() {
        SpillikinTable t = pile();
        is(8, "move", t.move(0, 0, 0, 7), 1);
        is(8, "its z", t.told(0, 6), 7);
        is(8, "its other z", t.told(0, 9), 7);
        is(8, "bars(0, 1)", t.bars(0, 1), true);
        is(8, "bars(1, 0)", t.bars(1, 0), false);
        is(8, "onto 1", t.move(0, 0, 0, -2), -11);
        is(8, "it has stayed", t.told(0, 6), 7);
        is(8, "onto 2", t.move(0, 0, 1, 2), -12);
        is(8, "by 0", t.move(0, 0, 0, 0), 1);
        is(8, "along itself", t.move(0, 1, 0, 0), 1);
        is(8, "to the edge", t.move(0, 989, 0, 0), 1);
        is(8, "to the edge: x", t.told(0, 7), 1000);
        is(8, "over the edge", t.move(0, 1, 0, 0), -3);
        is(8, "far", t.move(0, Integer.MAX_VALUE, 0, 0), -3);
        is(8, "far below", t.move(0, 0, Integer.MIN_VALUE, 0), -3);
        is(8, "far z", t.move(0, 0, 0, Integer.MIN_VALUE), -3);
        is(8, "y and x", t.move(0, -1, -1000, 0), 1);
        is(8, "y", t.told(0, 5), -1000);
        t.away(2);
        noStick(8, "move of one that is away", () -> t.move(2, 0, 0, 0));
        noStick(8, "move of 3", () -> t.move(3, 0, 0, 0));
        noStick(8, "move of -1", () -> t.move(-1, 5000, 0, 0));
        SpillikinTable hooks = table();
        stick(hooks, 0, 0, 0, 5, 0, 0, 5, 5, 0);
        stick(hooks, 0, 0, 9, 5, 0, 9, 5, 5, 9);
        is(8, "a hook onto a hook's bend", hooks.move(1, 5, 0, -9), -10);
        is(8, "a hook's last point beyond", hooks.move(1, 0, 996, 0), -3);
        is(8, "a hook", hooks.move(1, 0, 995, 0), 1);
        is(8, "its last point", hooks.told(1, 11), 1000);
    }

    static void taking() {
        SpillikinTable t = pile();
        is(9, "away, though barred", t.away(0), 2);
        is(9, "count(1)", t.count(1), 2);
        noStick(9, "away again", () -> t.away(0));
        noStick(9, "away of 9", () -> t.away(9));
        noStick(9, "away of NONE", () -> t.away(NONE));
        is(9, "away", t.away(2), 1);
        is(9, "the last", t.away(1), 0);

        SpillikinTable u = pile();
        is(10, "lift of a barred one", u.lift(0), false);
        is(10, "count(1)", u.count(1), 3);
        is(10, "it is no act", u.count(4), 3);
        is(10, "lift", u.lift(2), true);
        is(10, "count(1)", u.count(1), 2);
        is(10, "lift of the next", u.lift(1), true);
        is(10, "lift of the last", u.lift(0), true);
        noStick(10, "lift again", () -> u.lift(0));
        noStick(10, "lift of 100", () -> u.lift(100));
    }

    static void turns() {
        SpillikinTable t = pile();
        t.turn(0, 0, -100);
        is(11, "bars(0, 1)", t.bars(0, 1), true);
        is(11, "bars(1, 0)", t.bars(1, 0), false);
        prints(11, t, 0, 0, 1, "-1/20");
        noArgument(11, "turn(0, 0, 0)", () -> t.turn(0, 0, 0));
        noArgument(11, "turn(101, 0, 0)", () -> t.turn(101, 0, 0));
        noArgument(11, "turn(0, -101, 0)", () -> t.turn(0, -101, 0));
        noArgument(11, "turn(1, 1, 101)", () -> t.turn(1, 1, 101));
        noArgument(11, "turn of the least", () -> t.turn(1, 1, Integer.MIN_VALUE));
        is(11, "it has stayed", t.bars(0, 1), true);
        t.turn(100, 100, 100);
        prints(11, t, 0, 0, 0, "1/4");
        is(11, "it has turned", t.count(5), 2);
        is(11, "it is no act", t.count(4), 3);
        t.turn(0, 0, 1);
        is(11, "and back", t.bars(1, 0), true);
    }

    static void undoing() {
        SpillikinTable t = pile();
        t.move(0, 1, 2, 3);
        t.away(1);
        t.lift(2);
        is(12, "count(4)", t.count(4), 6);
        is(12, "lift undone", t.undo(), 3);
        is(12, "2 is there", t.after(1), 2);
        is(12, "away undone", t.undo(), 3);
        is(12, "1 is there", t.after(0), 1);
        is(12, "move undone", t.undo(), 2);
        is(12, "x", t.told(0, 4), -10);
        is(12, "y", t.told(0, 8), 0);
        is(12, "z", t.told(0, 9), 0);
        is(12, "lay undone", t.undo(), 1);
        is(12, "2 is away", t.after(1), NONE);
        is(12, "count(2)", t.count(2), 3);
        is(12, "the next number", stick(t, 50, 50, 50, 51, 51, 51), 3);
        is(12, "count(4)", t.count(4), 3);
        for (int i = 0; i < 3; i++) {
            is(12, "lay undone", t.undo(), 1);
        }
        is(12, "nothing to undo", t.undo(), NONE);
        is(12, "count(1)", t.count(1), 0);

        SpillikinTable u = table();
        stick(u, 0, 0, 0, 1, 0, 0);
        for (int i = 0; i < 11; i++) {
            u.move(0, 0, 0, 1);
        }
        u.move(0, 5000, 0, 0);
        is(12, "eight are kept", u.count(4), 8);
        for (int i = 0; i < 8; i++) {
            is(12, "move undone", u.undo(), 2);
        }
        is(12, "the ninth is not kept", u.undo(), NONE);
        is(12, "z", u.told(0, 6), 3);
        is(12, "count(4)", u.count(4), 0);
    }

    static void telling() {
        SpillikinTable t = table();
        stick(t, 1, 2, 3, 4, 5, 6);
        stick(t, 10, 20, 30, 40, 50, 60, 70, 80, -90);
        lay(t, 2, 99, 1, -1, -2, -3, -4, -5, -7);
        lay(t, 3, 0, 77, -11, -2, -3, -4, -5, -6);
        int[][] due = {{0, 0, 1, 1}, {1, 0, 1, 2}, {2, 99, 1, 1}, {3, 0, 77, 1}};
        for (int s = 0; s < 4; s++) {
            int at = s;
            for (int what = 0; what < 4; what++) {
                is(13, "told(" + s + ", " + what + ")", t.told(s, what), due[s][what]);
            }
            noArgument(13, "told(" + s + ", -1)", () -> t.told(at, -1));
            noArgument(13, "told(" + s + ", 13)", () -> t.told(at, 13));
            noArgument(13, "told(" + s + ", greatest)", () -> t.told(at, Integer.MAX_VALUE));
        }
        for (int i = 0; i < 6; i++) {
            is(13, "a stick's points", t.told(0, 4 + i), i + 1);
        }
        for (int i = 0; i < 9; i++) {
            is(13, "a hook's points", t.told(1, 4 + i), i == 8 ? -90 : 10 * i + 10);
        }
        noArgument(13, "a stick's third point", () -> t.told(0, 10));
        noStick(13, "told(4, 0)", () -> t.told(4, 0));
        noStick(13, "told(4, -1)", () -> t.told(4, -1));
        t.away(2);
        noStick(13, "told of one that is away", () -> t.told(2, 1));
    }

    static void counting() {
        SpillikinTable t = pile();
        t.box(0);
        t.print(0, 0, 0);
        t.away(2);
        int[] due = {2, 2, 3, 3, 4, 1};
        for (int what = 0; what <= 5; what++) {
            is(14, "count(" + what + ")", t.count(what), due[what]);
        }
        is(14, "count(6)", t.count(6), NONE);
        is(14, "count(-1)", t.count(-1), NONE);
        is(14, "pairs of two hooks that bar each other", twoHooks().count(5), 2);

        is(15, "after(NONE)", t.after(NONE), 0);
        is(15, "after(-7)", t.after(-7), 0);
        is(15, "after(0)", t.after(0), 1);
        is(15, "after(1)", t.after(1), NONE);
        is(15, "after the greatest", t.after(Integer.MAX_VALUE), NONE);
        is(15, "after the least", t.after(Integer.MIN_VALUE), 0);
        t.away(0);
        is(15, "after(NONE) now", t.after(NONE), 1);
    }

    static void barring() {
        SpillikinTable t = pile();
        is(16, "bars(1, 0)", t.bars(1, 0), true);
        is(16, "bars(0, 1)", t.bars(0, 1), false);
        is(16, "bars(2, 1)", t.bars(2, 1), true);
        is(16, "bars(2, 0): side by side", t.bars(2, 0), false);
        is(16, "bars(1, 1)", t.bars(1, 1), false);
        noStick(16, "bars(0, 3)", () -> t.bars(0, 3));
        noStick(16, "bars(3, 0)", () -> t.bars(3, 0));
        t.away(1);
        noStick(16, "bars(1, 1) when away", () -> t.bars(1, 1));
        SpillikinTable hooks = twoHooks();
        is(16, "a hook bars", hooks.bars(1, 0), true);
        is(16, "and is barred", hooks.bars(0, 1), true);
        SpillikinTable ends = table();
        stick(ends, 0, 0, 0, 10, 0, 0);
        stick(ends, 10, 0, 1, 20, 5, 1);
        is(16, "ends over each other", ends.bars(1, 0), true);
        SpillikinTable far = table();
        stick(far, -1000, -1000, -1000, 1000, 1000, -1000);
        stick(far, -1000, 1000, 1000, 1000, -999, 1000);
        far.turn(1, 2, 99);
        is(16, "far out", far.bars(1, 0), true);
    }

    static void crossingRows() {
        SpillikinTable t = table();
        stick(t, 0, 0, 0, 10, 0, 0, 10, 10, 0);
        stick(t, 5, -1, 3, 5, 1, 3);
        stick(t, 5, -1, -3, 5, 1, -3);
        stick(t, 10, -1, 4, 10, 1, 6);
        stick(t, 2, 2, 1, 2, -2, 1, 20, 4, 1);
        is(17, "crossings(0)", t.crossings(0), 7);
        is(17, "crossings(1), one at its end", t.crossings(1), 3);
        noStick(17, "crossings(5)", () -> t.crossings(5));
        int[][] due = {{0, 4, 0, 1}, {0, 1, 0, 1}, {0, 2, 0, 0}, {0, 4, 1, 1}, {0, 3, 0, 1}, {1, 3, 0, 1}, {1, 4, 1, 1}};
        for (int k = 0; k < due.length; k++) {
            for (int what = 0; what < 4; what++) {
                is(18, "crossing(0, " + k + ", " + what + ")", t.crossing(0, k, what), due[k][what]);
            }
        }
        is(18, "what 4", t.crossing(0, 0, 4), -1);
        is(18, "what -1", t.crossing(0, 0, -1), -1);
        is(18, "crossing 7", t.crossing(0, 7, 0), -1);
        is(18, "crossing -1", t.crossing(0, -1, 0), -1);
        noStick(18, "crossing of 5", () -> t.crossing(5, 0, 0));
        noStick(18, "crossing of NONE", () -> t.crossing(NONE, -1, -1));
        prints(19, t, 0, 0, 0, "1/5");
        prints(19, t, 0, 2, 1, "-3");
        prints(19, t, 0, 3, 0, "4/5");
        prints(19, t, 0, 4, 0, "1");
        prints(19, t, 0, 4, 1, "5");
        prints(19, t, 0, 5, 0, "0");
        prints(19, t, 0, 5, 1, "5");
        prints(19, t, 0, 6, 1, "1");
        t.move(1, 0, 0, 1);
        prints(19, t, 0, 1, 1, "4");
        t.away(1);
        is(17, "crossings(0) then", t.crossings(0), 6);
        is(18, "crossing 1 then", t.crossing(0, 1, 1), 2);
        SpillikinTable hooks = twoHooks();
        is(18, "the piece that bars", hooks.crossing(0, 0, 3), 1);
        is(18, "the piece that is barred", hooks.crossing(0, 1, 3), 0);
    }

    /** As many crossings as there can be: each piece of 39 hooks crosses both pieces of another one. */
    static void crossingMost() {
        SpillikinTable t = table();
        stick(t, -1000, 0, 0, 1000, 1, 0, -1000, 2, 0);
        for (int i = 1; i < 40; i++) {
            stick(t, -20 * i, -500, i, 1 - 20 * i, 500, i, 2 - 20 * i, -500, i);
        }
        is(17, "crossings of a full table", t.crossings(0), 156);
        is(18, "its first", t.crossing(0, 0, 1), 39);
        is(18, "its piece's last", t.crossing(0, 77, 1), 1);
        is(18, "its other piece's first", t.crossing(0, 78, 1), 1);
        is(18, "its last", t.crossing(0, 155, 1), 39);
        is(18, "its last piece", t.crossing(0, 155, 0), 1);
        is(18, "no more", t.crossing(0, 156, 0), -1);
        is(14, "count(5)", t.count(5), 39);
    }

    static void printing() {
        SpillikinTable t = table();
        stick(t, 0, 0, 0, 3, 0, 0);
        stick(t, 1, -1, 2, 1, 2, 3);
        prints(19, t, 0, 0, 0, "1/3");
        prints(19, t, 0, 0, 1, "7/3");
        prints(19, t, 1, 0, 1, "-7/3");
        is(19, "no crossing 1", t.print(0, 1, 0), NONE);
        is(19, "no crossing -1", t.print(0, -1, 0), NONE);
        is(19, "no what 2", t.print(0, 0, 2), NONE);
        is(19, "no what -1", t.print(0, 0, -1), NONE);
        is(19, "the page stays", page(t).equals("-7/3"), true);
        noStick(19, "print of 2", () -> t.print(2, 0, 0));
        t.away(0);
        is(19, "the page stays still", page(t).equals("-7/3"), true);
        printingInOneLine();
        SpillikinTable far = table();
        stick(far, -1000, -1000, -1000, 1000, 999, -999);
        stick(far, -1000, 1000, 998, 997, -998, 1000);
        far.turn(1, -2, 97);
        prints(19, far, 0, 0, 0, "391402008/774826289");
        prints(19, far, 0, 0, 1, "15964035994/774826289");
        prints(19, far, 1, 0, 0, "399984002/774826289");
    }

    /** Sticks that are seen as points, or one on the other. */
    static void printingInOneLine() {
        SpillikinTable t = table();
        stick(t, 0, 0, 5, 0, 0, 0);
        stick(t, 0, 0, 9, 0, 0, 7);
        stick(t, 3, 0, 23, -6, 0, 20);
        prints(19, t, 0, 0, 0, "0");
        prints(19, t, 0, 0, 1, "2");
        prints(19, t, 1, 0, 1, "-2");
        prints(19, t, 0, 1, 1, "17");
        prints(19, t, 1, 1, 1, "13");
        prints(19, t, 2, 0, 0, "1/3");
        prints(19, t, 2, 0, 1, "-17");
        prints(19, t, 2, 1, 1, "-13");
        stick(t, -3, 0, 30, -9, 0, 36);
        prints(19, t, 2, 2, 0, "2/3");
        prints(19, t, 2, 2, 1, "9");
        prints(19, t, 3, 0, 0, "0");
        prints(19, t, 3, 0, 1, "-9");
        stick(t, 3, 0, 40, 3, 5, 40);
        is(17, "seen at its end", t.crossings(4), 1);
        prints(19, t, 4, 0, 1, "-17");
        stick(t, 4, 0, 50, 9, 0, 50);
        is(17, "in its line, beside it", t.crossings(5), 0);
        t.turn(0, 0, -2);
        prints(19, t, 2, 2, 1, "13/2");
        for (int turned = 0; turned < 4; turned++) {
            SpillikinTable column = table();
            int low = turned % 2 * 5;
            int high = turned / 2 * 2;
            stick(column, 3, 4, low, 3, 4, 5 - low);
            stick(column, 3, 4, 7 + high, 3, 4, 9 - high);
            prints(19, column, 0, 0, 0, "0");
            prints(19, column, 0, 0, 1, "2");
            prints(19, column, 1, 0, 0, "0");
            prints(19, column, 1, 0, 1, "-2");
        }
        SpillikinTable slopes = table();
        stick(slopes, 0, 0, 0, 7, 0, 3);
        stick(slopes, -2, 0, 20, 5, 0, 15);
        prints(19, slopes, 0, 0, 0, "0");
        prints(19, slopes, 0, 0, 1, "90/7");
        prints(19, slopes, 1, 0, 0, "2/7");
        prints(19, slopes, 1, 0, 1, "-90/7");
        slopes.turn(-1, 0, -10);
        prints(19, slopes, 0, 0, 0, "0");
        prints(19, slopes, 0, 0, 1, "-90/67");
        prints(19, slopes, 1, 0, 0, "8/15");
        prints(19, slopes, 1, 0, 1, "90/67");
        slopes.turn(-3, 0, 2);
        is(17, "past each other", slopes.crossings(0), 0);
    }

    static void orders() {
        SpillikinTable t = pile();
        is(20, "free(2)", t.free(2), true);
        is(20, "free(1)", t.free(1), false);
        is(20, "free(0)", t.free(0), false);
        noStick(20, "free(3)", () -> t.free(3));
        noStick(20, "free(NONE)", () -> t.free(NONE));
        is(21, "order(0)", t.order(0), 2);
        is(21, "order(1)", t.order(1), 1);
        is(21, "order(2)", t.order(2), 0);
        is(21, "order(3)", t.order(3), NONE);
        is(21, "order(-1)", t.order(-1), NONE);
        is(26, "layer(2)", t.layer(2), 0);
        is(26, "layer(1)", t.layer(1), 1);
        is(26, "layer(0)", t.layer(0), 2);
        stick(t, 100, 0, 0, 101, 0, 0);
        stick(t, -10, 2, 50, 10, 2, 60);
        is(21, "the least free first", t.order(0), 2);
        is(21, "then the next", t.order(1), 3);
        is(21, "and the next", t.order(2), 4);
        is(21, "then what it held", t.order(3), 1);
        t.away(2);
        is(20, "still barred by 4", t.free(1), false);
        t.away(4);
        is(20, "free now", t.free(1), true);
        is(21, "order(0) then", t.order(0), 1);
        is(21, "order(1) then", t.order(1), 0);
        is(21, "order(2) then", t.order(2), 3);
        noStick(26, "layer(2)", () -> t.layer(2));
        is(26, "layer(3)", t.layer(3), 0);

        SpillikinTable knot = ring(1, 0);
        is(21, "none comes of a ring", knot.order(0), NONE);
        stick(knot, 100, 0, 0, 101, 0, 0);
        is(21, "but one beside it", knot.order(0), 3);
        is(21, "and no more", knot.order(1), NONE);
        is(26, "no layer with a knot", knot.layer(3), NONE);
        noStick(26, "layer(4) with a knot", () -> knot.layer(4));
    }

    static void knotting() {
        SpillikinTable t = ring(5, 0);
        addRing(t, 1, 100);
        is(22, "knots()", t.knots(), 2);
        int[][][] due = {{{0, 1, 2}, {0, 2, 1}}, {{3, 4, 5}, {3, 5, 4}}};
        for (int k = 0; k < 2; k++) {
            for (int what = 0; what < 2; what++) {
                for (int i = 0; i < 3; i++) {
                    is(23, "knot(" + k + ", " + what + ", " + i + ")", t.knot(k, what, i), due[k][what][i]);
                }
                is(23, "knot(" + k + ", " + what + ", 3)", t.knot(k, what, 3), NONE);
                is(23, "knot(" + k + ", " + what + ", -1)", t.knot(k, what, -1), NONE);
            }
        }
        is(23, "knot(2, 0, 0)", t.knot(2, 0, 0), NONE);
        is(23, "knot(-1, 0, 0)", t.knot(-1, 0, 0), NONE);
        is(23, "knot(0, 2, 0)", t.knot(0, 2, 0), NONE);
        is(23, "knot(0, -1, 0)", t.knot(0, -1, 0), NONE);
        is(24, "fewest()", t.fewest(), 2);
        is(25, "few(0)", t.few(0), 1);
        is(25, "few(1)", t.few(1), 3);
        is(25, "few(2)", t.few(2), NONE);
        is(25, "few(-1)", t.few(-1), NONE);
        t.away(1);
        is(22, "knots() then", t.knots(), 1);
        is(23, "knot(0, 0, 0) then", t.knot(0, 0, 0), 3);
        is(25, "few(0) then", t.few(0), 3);
        t.away(5);
        is(22, "no knot", t.knots(), 0);
        is(24, "nothing to take", t.fewest(), 0);
        is(25, "none to take", t.few(0), NONE);
        t.undo();
        is(22, "a knot again", t.knots(), 1);
        t.turn(0, 0, -1);
        is(23, "the other way round", t.knot(0, 1, 1), 4);
        SpillikinTable two = twoHooks();
        is(22, "two that bar each other", two.knots(), 1);
        is(23, "their ring", two.knot(0, 1, 1), 1);
        is(23, "their ring's end", two.knot(0, 1, 2), NONE);
        knottingMore();
    }

    static void knottingMore() {
        SpillikinTable twelve = combs(11, 1);
        is(22, "one knot of 12", twelve.knots(), 1);
        is(23, "its last stick", twelve.knot(0, 0, 11), 11);
        is(23, "its ring is of two", twelve.knot(0, 1, 2), NONE);
        is(24, "the bar is enough", twelve.fewest(), 1);
        is(25, "it is the bar", twelve.few(0), 0);
        is(24, "a bar that is too dear", combs(11, 12).fewest(), 11);
        is(25, "the last hook", combs(11, 12).few(10), 11);
        is(24, "as dear as all hooks", combs(11, 11).fewest(), 11);
        is(25, "fewer sticks", combs(11, 11).few(0), 0);
        is(25, "fewer sticks, no more", combs(11, 11).few(1), NONE);
        SpillikinTable more = combs(12, 1);
        is(22, "one knot of 13", more.knots(), 1);
        is(24, "13 are too many", more.fewest(), -1);
        is(25, "without fewest", more.few(0), NONE);
        more.away(12);
        is(24, "12 are not", more.fewest(), 1);
    }

    static void knottingRound() {
        SpillikinTable mixed = table();
        stick(mixed, -10, 0, 0, 10, 0, 20);
        addRing(mixed, 1, 100);
        addRestOfRing(mixed, 0);
        is(22, "two knots", mixed.knots(), 2);
        is(23, "the first has the least", mixed.knot(0, 0, 0), 0);
        is(23, "and others behind the second's", mixed.knot(0, 0, 1), 4);
        is(23, "the second", mixed.knot(1, 0, 0), 1);
        is(25, "one of each, rising", mixed.few(0), 0);
        is(25, "one of each, rising, then", mixed.few(1), 1);

        SpillikinTable late = table();
        stick(late, 0, -5, 5, 0, 5, 5, 10, -5, -15);
        stick(late, 20, -5, 5, 20, 5, 5, 30, -5, -15);
        lay(late, 3, 0, 2, -500, 0, 0, 500, 0, 0);
        is(24, "two or a dear one", late.fewest(), 2);
        is(25, "the fewer, though it is later", late.few(0), 2);
        is(25, "and no more", late.few(1), NONE);

        SpillikinTable forty = circle(40);
        is(14, "pairs of a circle", forty.count(5), 40);
        is(22, "a circle of forty", forty.knots(), 1);
        for (int i = 0; i < 40; i++) {
            is(23, "its ring", forty.knot(0, 1, i), (40 - i) % 40);
        }
        is(23, "its ring's end", forty.knot(0, 1, 40), NONE);
        is(24, "it is too great", forty.fewest(), -1);
        forty.away(7);
        is(24, "but not without one", forty.fewest(), 0);
        is(26, "its layers", forty.layer(6), 38);
        SpillikinTable twelve = circle(12);
        is(24, "a circle of twelve", twelve.fewest(), 1);
        is(25, "the first of it", twelve.few(0), 0);
        for (int i = 0; i < 12; i++) {
            twelve.push(11 - i);
        }
        is(28, "its ring, from another one on", twelve.check(1), NONE);
    }

    static void proofs() {
        SpillikinTable t = pile();
        for (int i = 1; i <= 40; i++) {
            is(27, "push", t.push(i == 7 ? Integer.MIN_VALUE : 2), i);
        }
        is(27, "push of a 41st", t.push(2), NONE);
        is(28, "a stick twice", t.check(0), 1);
        is(27, "push on an empty proof", t.push(2), 1);
        t.push(1);
        noArgument(28, "check(2)", () -> t.check(2));
        noArgument(28, "check(-1)", () -> t.check(-1));
        is(27, "the proof stays then", t.push(0), 3);
        is(28, "an order", t.check(0), NONE);
        is(28, "nothing on the proof", t.check(0), 0);
        isChecked(t, 0, 2, 2, 1);
        isChecked(t, 0, 1, 2, 0);
        isChecked(t, 0, 0, 1);
        isChecked(t, 0, 0, 5, 2, 1);
        isChecked(t, 0, 0, -1, 2, 1);
        isChecked(t, 0, 3, 2, 1, 0, 0);
        isChecked(t, 1, 0);
        isChecked(t, 1, 1, 0);
        isChecked(t, 1, 0, 0, 1, 2);
        isChecked(t, 1, 1, 0, 2, 1);

        SpillikinTable ring = ring(1, 0);
        isChecked(ring, 1, NONE, 0, 2, 1);
        isChecked(ring, 1, NONE, 2, 1, 0);
        isChecked(ring, 1, 1, 0, 1, 2);
        isChecked(ring, 1, 0, 0, 2);
        isChecked(ring, 1, 3, 0, 2, 1, 0);
        isChecked(ring, 1, 1, 0, 0);
        isChecked(ring, 1, 2, 0, 2, 9);
        isChecked(ring, 1, 0, 9);
        isChecked(ring, 1, 1, 2);
        isChecked(ring, 0, 0, 0);
        isChecked(twoHooks(), 1, NONE, 0, 1);
        isChecked(new SpillikinTable(), 0, NONE);
        isChecked(new SpillikinTable(), 1, 0);
    }

    static void isChecked(SpillikinTable t, int how, int due, int... proof) {
        for (int i = 0; i < proof.length; i++) {
            is(27, "push(" + proof[i] + ")", t.push(proof[i]), i + 1);
        }
        is(28, "check(" + how + ") of " + java.util.Arrays.toString(proof), t.check(how), due);
        is(28, "it is empty then", t.push(0), 1);
        t.check(0);
    }

    static void octets() {
        SpillikinTable t = pile();
        is(29, "an empty page", t.octet(0), NONE);
        t.print(0, 0, 0);
        is(29, "octet(0)", t.octet(0), '1');
        is(29, "octet(1)", t.octet(1), '/');
        is(29, "octet(2)", t.octet(2), '2');
        is(29, "octet(3)", t.octet(3), NONE);
        is(29, "octet(-1)", t.octet(-1), NONE);
        is(29, "octet of the greatest", t.octet(Integer.MAX_VALUE), NONE);
        t.print(0, 0, 1);
        is(29, "a new page", t.octet(1), NONE);
        is(29, "count(3)", t.count(3), 1);
    }

    public static void main(String[] args) {
        newObject();
        boxes();
        rows();
        puts();
        copies();
        tears();
        lays();
        moves();
        taking();
        turns();
        undoing();
        telling();
        counting();
        barring();
        crossingRows();
        crossingMost();
        printing();
        orders();
        knotting();
        knottingRound();
        proofs();
        octets();
        conclude();
    }
}
