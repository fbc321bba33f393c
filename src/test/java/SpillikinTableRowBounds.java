/** For each sentence on boxes and rows that names a boundary case, a test of its own (promises 1 to 6). */
public final class SpillikinTableRowBounds extends TableCheck {
    private static final int LEAST = Integer.MIN_VALUE;
    private static final int GREATEST = Integer.MAX_VALUE;
    private static final int SCRATCH = 18;
    private static final int BEYOND = 10000;

    /** A table with a box of each width, numbered like its width. */
    private static SpillikinTable threeBoxes() {
        SpillikinTable t = new SpillikinTable();
        t.box(0);
        t.box(1);
        t.box(2);
        return t;
    }

    /** The number at a place, told by a stick that begins there; BEYOND less something if it makes none. */
    private static int numberAt(SpillikinTable t, int box, int k, int i) {
        t.row(box, SCRATCH, 6);
        t.put(box, SCRATCH, 4, 1);
        if (t.copy(box, k, i, box, SCRATCH, 0, 1) != 1) {
            return GREATEST;
        }
        int s = t.lay(0, box, SCRATCH, 0, 1);
        if (s < 0) {
            return BEYOND + s;
        }
        int number = t.told(s, 4);
        t.away(s);
        return number;
    }

    private static String numbers(SpillikinTable t, int box, int k, int n) {
        StringBuilder text = new StringBuilder();
        for (int i = 0; i < n; i++) {
            text.append(i == 0 ? "" : " ").append(numberAt(t, box, k, i));
        }
        return text.toString();
    }

    private static void fill(SpillikinTable t, int box, int k, long... numbers) {
        t.row(box, k, numbers.length);
        for (int i = 0; i < numbers.length; i++) {
            t.put(box, k, i, numbers[i]);
        }
    }

    static void aNewObject() {
        says(1, "No BOXES, no STICKS, DIRECTION 0, 0, 1; an empty PAGE.");
        SpillikinTable t = new SpillikinTable();
        for (int what = 0; what <= 5; what++) {
            is("count(" + what + ")", t.count(what), 0);
        }
        noBox("row in box 0", () -> t.row(0, 0, 1));
        noStick("stick 0", () -> t.free(0));
        is("octet(0)", t.octet(0), NONE);
        is("the proof's length", t.push(0), 1);
        SpillikinTable up = table();
        stick(up, 0, 0, 0, 0, 0, 1);
        stick(up, 0, 0, 3, 0, 0, 4);
        stick(up, 2, 0, 0, 3, 0, 0);
        is("bars along 0, 0, 1", up.bars(1, 0), true);
        is("and along nothing else", up.count(5), 1);
        up.print(0, 0, 1);
        is("by 1 a step", page(up), "2");
    }

    static void theWidths() {
        says(2, "BOXES of a WIDTH: numbers of 16 (0), 32 (1) or 64 bits (2)");
        SpillikinTable t = new SpillikinTable();
        for (int width : new int[] {LEAST, -1, 3, 4, 16, 32, 64, GREATEST}) {
            noArgument("box(" + width + ")", () -> t.box(width));
        }
        is("none came", t.count(0), 0);
        is("box(0)", t.box(0), 0);
        is("box(2)", t.box(2), 1);
        is("box(1)", t.box(1), 2);
    }

    static void eightBoxes() {
        says(2, "BOXES 0 to 7; IllegalStateException: there are 8");
        SpillikinTable t = new SpillikinTable();
        for (int i = 0; i < 8; i++) {
            int next = i;
            noBox("row in box " + i + " ahead of it", () -> t.row(next, 0, 1));
            is("box", t.box(2 - i % 3), i);
            is("row in it", t.row(i, 0, 1), 1);
        }
        for (int width = 0; width < 3; width++) {
            int some = width;
            refuses(2, "a ninth box", IllegalStateException.class, () -> t.box(some));
        }
        noArgument("a ninth box of no width", () -> t.box(3));
        is("count(0)", t.count(0), 8);
        noBox("row in box 8", () -> t.row(8, 0, 1));
        is("the last box has stayed", t.tear(7, 0), 1);
    }

    static void missingAtFirst() {
        says(2, "each has ROWS 0 to 19, missing at first");
        SpillikinTable t = threeBoxes();
        for (int k = 0; k < 20; k++) {
            is("tear of row " + k, t.tear(1, k), NONE);
            is("put in row " + k, t.put(1, k, 0, 1), -1);
            is("lay of row " + k, t.lay(0, 1, k, 0, 1), -1);
        }
        t.row(1, 4, 6);
        is("the row ahead is missing still", t.tear(1, 3), NONE);
        is("the row behind is missing still", t.tear(1, 5), NONE);
        is("another box's row is missing still", t.tear(2, 4), NONE);
    }

    static void noSuchBoxOrRow() {
        says(3, "IndexOutOfBoundsException: no such BOX or ROW.");
        SpillikinTable t = threeBoxes();
        fill(t, 0, 19, 1, 2, 3, 4, 5, 6);
        fill(t, 2, 0, 1, 2, 3, 4, 5, 6);
        int[][] wrong = {{-1, 0}, {3, 0}, {8, 0}, {LEAST, 0}, {GREATEST, 0}, {0, -1}, {0, 20}, {0, LEAST}, {0, GREATEST}};
        for (int[] at : wrong) {
            String name = "(" + at[0] + ", " + at[1] + ")";
            noBox("row" + name, () -> t.row(at[0], at[1], 6));
            noBox("row of -1 " + name, () -> t.row(at[0], at[1], -1));
            noBox("put" + name, () -> t.put(at[0], at[1], 0, 1));
            noBox("tear" + name, () -> t.tear(at[0], at[1]));
            noBox("copy from " + name, () -> t.copy(at[0], at[1], 0, 2, 0, 0, 1));
            noBox("copy to " + name, () -> t.copy(2, 0, 0, at[0], at[1], 0, 1));
            noBox("copy from a missing row to " + name, () -> t.copy(2, 5, -1, at[0], at[1], 0, 1));
            noBox("lay" + name, () -> t.lay(0, at[0], at[1], 0, 1));
            noBox("lay of no kind " + name, () -> t.lay(-1, at[0], at[1], 0, 1));
        }
        is("rows have stayed", numbers(t, 0, 19, 6), "1 2 3 4 5 6");
        is("row 19 is one", t.tear(0, 19), 6);
    }

    static void zeroAtFirst() {
        says(3, "A ROW is a row of numbers, 0 at first.");
        SpillikinTable t = threeBoxes();
        for (int box = 0; box < 3; box++) {
            t.row(box, 0, 30);
            is("a new row's first", numberAt(t, box, 0, 0), 0);
            is("a new row's last", numberAt(t, box, 0, 29), 0);
        }
        fill(t, 2, 1, 1, 2, 3, 4);
        t.row(2, 1, 4);
        is("a row in its place", numbers(t, 2, 1, 4), "0 0 0 0");
        fill(t, 2, 1, 1, 2, 3, 4);
        t.row(2, 1, 2);
        t.row(2, 1, 4);
        is("a shorter one, then one as long", numbers(t, 2, 1, 4), "0 0 0 0");
        fill(t, 2, 1, 1, 2, 3, 4);
        t.tear(2, 1);
        t.row(2, 1, 4);
        is("one that was torn", numbers(t, 2, 1, 4), "0 0 0 0");
    }

    static void rowsTooSmallOrLarge() {
        says(3, "-1, and nothing changes, if n is below 0 or above 30.");
        SpillikinTable t = threeBoxes();
        fill(t, 1, 0, 7, 8, 9);
        for (int n : new int[] {-1, 31, -31, LEAST, GREATEST}) {
            is("row of " + n, t.row(1, 0, n), -1);
            is("row of " + n + " where one is missing", t.row(1, 1, n), -1);
            is("it is missing still", t.tear(1, 1), NONE);
        }
        is("its numbers", numbers(t, 1, 0, 3), "7 8 9");
        is("its length", t.tear(1, 0), 3);
        says(3, "A ROW of n numbers comes in the place of ROW k: n");
        for (int n = 0; n <= 30; n++) {
            is("row", t.row(1, 2, n), n);
            is("its place n", t.put(1, 2, n, 1), -2);
            is("its place n - 1", t.put(1, 2, n - 1, 1), n == 0 ? -2 : 1);
        }
        is("a shorter one", t.row(1, 2, 4), 4);
        is("its length", t.tear(1, 2), 4);
    }

    private static int becomes(int width, long v) {
        SpillikinTable t = threeBoxes();
        t.row(width, 0, 3);
        is("put", t.put(width, 0, 2, v), 1);
        return numberAt(t, width, 0, 2);
    }

    static void lowestBits() {
        says(4, "The number becomes v (of 16 bits its lowest ones)");
        is("16 bits: 65536", becomes(0, 65536), 0);
        is("16 bits: 65535", becomes(0, 65535), -1);
        is("16 bits: -65537", becomes(0, -65537), -1);
        is("16 bits: -65535", becomes(0, -65535), 1);
        is("16 bits: 66536", becomes(0, 66536), 1000);
        is("16 bits: 66537", becomes(0, 66537), BEYOND - 3);
        is("16 bits: 64536", becomes(0, 64536), -1000);
        is("16 bits: 32767", becomes(0, 32767), BEYOND - 3);
        is("16 bits: 32768", becomes(0, 32768), BEYOND - 3);
        is("16 bits: the greatest", becomes(0, Long.MAX_VALUE), -1);
        is("16 bits: the least", becomes(0, Long.MIN_VALUE), 0);
        is("32 bits: 65536", becomes(1, 65536), BEYOND - 3);
        is("32 bits: 2^32", becomes(1, 1L << 32), 0);
        is("32 bits: 2^32 - 1", becomes(1, (1L << 32) - 1), -1);
        is("32 bits: -2^32 + 1000", becomes(1, 1000 - (1L << 32)), 1000);
        is("32 bits: 2^31", becomes(1, 1L << 31), BEYOND - 3);
        is("32 bits: the greatest", becomes(1, Long.MAX_VALUE), -1);
        is("64 bits: 2^32", becomes(2, 1L << 32), BEYOND - 3);
        is("64 bits: the greatest", becomes(2, Long.MAX_VALUE), BEYOND - 3);
        is("64 bits: the least", becomes(2, Long.MIN_VALUE), BEYOND - 3);
        is("64 bits: -1000", becomes(2, -1000), -1000);
    }

    static void noPlaceToPut() {
        says(4, "-1: the ROW is missing");
        SpillikinTable t = threeBoxes();
        is("at place 0", t.put(0, 7, 0, 1), -1);
        is("at no place", t.put(0, 7, -1, 1), -1);
        is("it is missing still", t.tear(0, 7), NONE);
        t.row(0, 7, 2);
        t.tear(0, 7);
        is("once it was torn", t.put(0, 7, 0, 1), -1);
        says(4, "-2: there is no such place");
        fill(t, 0, 7, 5, 6);
        for (int i : new int[] {-1, 2, 3, 29, 30, LEAST, GREATEST}) {
            is("place " + i, t.put(0, 7, i, 9), -2);
        }
        is("its numbers", numbers(t, 0, 7, 2), "5 6");
        t.row(0, 8, 0);
        is("place 0 of none", t.put(0, 8, 0, 9), -2);
        t.row(0, 6, 30);
        is("place 29 of 30", t.put(0, 6, 29, 9), 1);
        is("place 30 of 30", t.put(0, 6, 30, 9), -2);
        is("the row behind", numberAt(t, 0, 7, 0), 5);
    }

    static void copyOfMissing() {
        says(5, "-1: one is missing");
        SpillikinTable t = threeBoxes();
        fill(t, 2, 0, 1, 2, 3);
        is("the first", t.copy(2, 1, 0, 2, 0, 0, 1), -1);
        is("the second", t.copy(2, 0, 0, 2, 1, 0, 1), -1);
        is("both", t.copy(2, 1, 0, 2, 1, 0, 1), -1);
        is("none of it", t.copy(2, 1, 0, 2, 0, 0, 0), -1);
        is("it is missing still", t.tear(2, 1), NONE);
        is("its numbers", numbers(t, 2, 0, 3), "1 2 3");
    }

    static void copyBeyond() {
        says(5, "-2: they are beyond, or one of these numbers is below 0");
        SpillikinTable t = threeBoxes();
        fill(t, 2, 0, 1, 2, 3, 4);
        fill(t, 2, 1, 7, 8, 9);
        int[][] wrong = {{0, 0, 4}, {2, 0, 3}, {4, 0, 1}, {0, 1, 3}, {0, 3, 1}, {5, 0, 0}, {0, 4, 0},
            {-1, 0, 1}, {0, -1, 1}, {0, 0, -1}, {-1, 0, 0}, {0, -1, 0}, {4, 3, -1}, {-1, -1, -1},
            {GREATEST, 0, 1}, {0, GREATEST, 1}, {0, 0, GREATEST}, {1, 1, GREATEST}, {GREATEST, GREATEST, GREATEST},
            {LEAST, 0, 1}, {0, LEAST, 1}, {0, 0, LEAST}, {LEAST, LEAST, LEAST}, {LEAST, 0, GREATEST}};
        for (int[] at : wrong) {
            is("copy from " + at[0] + " to " + at[1] + ", " + at[2], t.copy(2, 0, at[0], 2, 1, at[1], at[2]), -2);
        }
        is("onto itself", t.copy(2, 0, 1, 2, 0, 0, 4), -2);
        is("nothing was copied", numbers(t, 2, 1, 3) + " " + numbers(t, 2, 0, 4), "7 8 9 1 2 3 4");
        says(5, "Numbers n of ROW a, from place i on, are copied to places j and on of ROW b: n");
        is("none", t.copy(2, 0, 4, 2, 1, 3, 0), 0);
        is("all that fit", t.copy(2, 0, 1, 2, 1, 0, 3), 3);
        is("the row", numbers(t, 2, 1, 3), "2 3 4");
        is("the last one to the last", t.copy(2, 0, 3, 2, 1, 2, 1), 1);
        is("the first one to the last", t.copy(2, 0, 0, 2, 1, 2, 1), 1);
        is("the row then", numbers(t, 2, 1, 3), "2 3 1");
        is("what it was copied from", numbers(t, 2, 0, 4), "1 2 3 4");
    }

    static void copyOfUnlikeWidths() {
        says(5, "-3: the BOXES have unlike WIDTHS");
        SpillikinTable t = threeBoxes();
        for (int box = 0; box < 3; box++) {
            fill(t, box, 0, 5 + box);
        }
        for (int a = 0; a < 3; a++) {
            for (int b = 0; b < 3; b++) {
                is("from " + a + " to " + b, t.copy(a, 0, 0, b, 0, 0, 1), a == b ? 1 : -3);
                is("none from " + a + " to " + b, t.copy(a, 0, 0, b, 0, 0, 0), a == b ? 0 : -3);
            }
        }
        is("nothing was copied", numberAt(t, 0, 0, 0) * 100 + numberAt(t, 1, 0, 0) * 10 + numberAt(t, 2, 0, 0), 567);
        t.box(2);
        t.row(3, 0, 1);
        is("another box of the same width", t.copy(2, 0, 0, 3, 0, 0, 1), 1);
        is("its number", numberAt(t, 3, 0, 0), 7);
    }

    static void copyRefusedForTheFirst() {
        says(5, "(The first of these.)");
        SpillikinTable t = threeBoxes();
        t.row(2, 0, 3);
        t.row(1, 0, 3);
        is("missing and beyond", t.copy(2, 1, 0, 2, 0, 0, 31), -1);
        is("missing and below 0", t.copy(2, 0, -1, 2, 1, -1, -1), -1);
        is("missing and unlike", t.copy(2, 0, 0, 1, 1, 0, 1), -1);
        is("missing, beyond and unlike", t.copy(2, 1, 9, 1, 0, 0, 1), -1);
        is("beyond and unlike", t.copy(2, 0, 3, 1, 0, 0, 1), -2);
        is("below 0 and unlike", t.copy(2, 0, 0, 1, 0, 0, -1), -2);
        is("unlike", t.copy(2, 0, 0, 1, 0, 0, 3), -3);
    }

    static void copyOntoItself() {
        says(5, "(as they were ahead of it)");
        SpillikinTable t = threeBoxes();
        for (int box = 0; box < 3; box++) {
            fill(t, box, 0, 1, 2, 3, 4, 5);
            is("up", t.copy(box, 0, 0, box, 0, 1, 4), 4);
            is("the row", numbers(t, box, 0, 5), "1 1 2 3 4");
        }
        fill(t, 2, 0, 1, 2, 3, 4, 5);
        is("down", t.copy(2, 0, 2, 2, 0, 0, 3), 3);
        is("the row", numbers(t, 2, 0, 5), "3 4 5 4 5");
        is("in its place", t.copy(2, 0, 0, 2, 0, 0, 5), 5);
        is("the row", numbers(t, 2, 0, 5), "3 4 5 4 5");
    }

    static void aFullRowIsCopied() {
        says(5, "Numbers n of ROW a are copied: n (30 of them)");
        SpillikinTable t = threeBoxes();
        t.row(2, 19, 30);
        t.row(2, 17, 30);
        for (int i = 0; i < 30; i++) {
            t.put(2, 19, i, 100 + i);
        }
        is("copy", t.copy(2, 19, 0, 2, 17, 0, 30), 30);
        is("its first", numberAt(t, 2, 17, 0), 100);
        is("its last", numberAt(t, 2, 17, 29), 129);
    }

    static void tornAlready() {
        says(6, "how many numbers it had; -1: it was.");
        SpillikinTable t = threeBoxes();
        is("never there", t.tear(0, 0), -1);
        for (int n : new int[] {0, 1, 30}) {
            t.row(0, 0, n);
            is("of " + n, t.tear(0, 0), n);
            is("again", t.tear(0, 0), -1);
        }
        t.row(0, 0, 6);
        t.row(0, 1, 7);
        t.row(1, 0, 8);
        t.tear(0, 0);
        is("the next row stays", t.tear(0, 1), 7);
        is("another box's row stays", t.tear(1, 0), 8);
        t.row(2, 0, 6);
        t.put(2, 0, 3, 5);
        is("a stick of it", t.lay(0, 2, 0, 0, 1), 0);
        t.tear(2, 0);
        is("the stick stays", t.told(0, 7), 5);
        says(6, "ROW k is missing again");
        is("put", t.put(2, 0, 0, 1), -1);
        is("copy", t.copy(2, 0, 0, 2, 0, 0, 0), -1);
        is("lay", t.lay(0, 2, 0, 0, 1), -1);
    }

    public static void main(String[] args) {
        aNewObject();
        theWidths();
        eightBoxes();
        missingAtFirst();
        noSuchBoxOrRow();
        zeroAtFirst();
        rowsTooSmallOrLarge();
        lowestBits();
        noPlaceToPut();
        copyOfMissing();
        copyBeyond();
        copyOfUnlikeWidths();
        copyRefusedForTheFirst();
        copyOntoItself();
        aFullRowIsCopied();
        tornAlready();
        conclude();
    }
}
