/** For each sentence on what is seen along the direction that names a boundary case, a test (promises 16 to 19). */
public final class SpillikinTableSightBounds extends TableCheck {
    private static final int LEAST = Integer.MIN_VALUE;
    private static final int GREATEST = Integer.MAX_VALUE;
    private static final int PLACE = 0;
    private static final int HEIGHT = 1;

    private static SpillikinTable two(long[] first, long[] second) {
        SpillikinTable t = table();
        is("the first stick", stick(t, first), 0);
        is("the second stick", stick(t, second), 1);
        return t;
    }

    private static long[] at(long... numbers) {
        return numbers;
    }

    private static String printed(SpillikinTable t, int s, int k, int what) {
        int length = t.print(s, k, what);
        String text = page(t);
        return text.length() == length ? text : "a page of " + text.length() + " for " + length;
    }

    /** Of the only crossing of two sticks: place and height on the first, place and height on the second. */
    private static void crossesAt(String what, SpillikinTable t, String due) {
        is(what + ": crossings", t.crossings(0) * 10 + t.crossings(1), 11);
        is(what, printed(t, 0, 0, PLACE) + " " + printed(t, 0, 0, HEIGHT) + " " + printed(t, 1, 0, PLACE) + " "
                + printed(t, 1, 0, HEIGHT), due);
        boolean above = due.split(" ")[1].charAt(0) != '-';
        is(what + ": the one bars", t.bars(1, 0), above);
        is(what + ": the other bars", t.bars(0, 1), !above);
        is(what + ": crossing(0, 0, 3)", t.crossing(0, 0, 3), above ? 1 : 0);
        is(what + ": crossing(1, 0, 3)", t.crossing(1, 0, 3), above ? 0 : 1);
    }

    private static void missesBy(String what, SpillikinTable t) {
        is(what + ": crossings", t.crossings(0) + t.crossings(1), 0);
        is(what + ": pairs", t.count(5), 0);
        is(what + ": crossing", t.crossing(0, 0, 0), -1);
        is(what + ": print", t.print(0, 0, PLACE), NONE);
    }

    static void oneAlone() {
        says(16, "(false for one alone)");
        SpillikinTable t = pile();
        for (int s = 0; s < 3; s++) {
            is("bars(" + s + ", " + s + ")", t.bars(s, s), false);
        }
        says(16, "A STICK a BARS another one; two PIECES of unlike STICKS CROSS");
        SpillikinTable over = table();
        stick(over, 0, 0, 0, 10, 0, 5, 0, 0, 10);
        is("a hook whose piece lies over its other one", over.bars(0, 0), false);
        is("its crossings", over.crossings(0), 0);
        is("it is free", over.free(0), true);
        is("pairs", over.count(5), 0);
        SpillikinTable knot = twoHooks();
        is("one of a knot", knot.bars(0, 0) || knot.bars(1, 1), false);
    }

    static void anyDistance() {
        says(16, "moved along D by t times it, t above 0 whatever");
        SpillikinTable far = two(at(-1, 0, -1000, 1, 0, -1000), at(0, -1, 1000, 0, 1, 1000));
        crossesAt("by 2000", far, "1/2 2000 1/2 -2000");
        far.turn(0, 0, 100);
        crossesAt("by 20", far, "1/2 20 1/2 -20");
        far.turn(0, 0, -100);
        crossesAt("by -20", far, "1/2 -20 1/2 20");
        SpillikinTable near = two(at(-1, 0, 0, 1, 0, 0), at(0, -1, 1, 0, 1, 1));
        near.turn(0, 0, 100);
        crossesAt("by a hundredth", near, "1/2 1/100 1/2 -1/100");
        SpillikinTable close = two(at(-1000, -1000, -1000, 1000, 1000, 999), at(-1000, 999, -1000, 1000, -1000, 1000));
        close.turn(1, 0, 100);
        crossesAt("by less than a hundredth", close,
                "395802000/791803999 3998000/791803999 395803999/791803999 -3998000/791803999");
    }

    static void crossAtEnds() {
        says(17, "PIECES CROSS if a point of p and one of q differ by a multiple of D alone: at their ends too");
        long[] low = at(0, 0, 0, 10, 0, 0);
        crossesAt("end over end", two(low, at(10, 0, 3, 20, 5, 3)), "1 3 0 -3");
        crossesAt("end over beginning", two(low, at(-9, 9, 3, 0, 0, 3)), "0 3 1 -3");
        crossesAt("beginning over beginning", two(low, at(0, 0, 3, 0, 9, 3)), "0 3 0 -3");
        crossesAt("end under end", two(low, at(20, 5, -3, 10, 0, -3)), "1 -3 1 3");
        crossesAt("end over the middle", two(low, at(5, 0, 3, 5, 9, 3)), "1/2 3 0 -3");
        crossesAt("middle over the end", two(low, at(10, -1, 3, 10, 1, 5)), "1 4 1/2 -4");
        missesBy("beside the end", two(low, at(11, -1, 3, 11, 1, 3)));
        missesBy("beside the beginning", two(low, at(-1, -1, 3, -1, 1, 3)));
        missesBy("short of it", two(low, at(5, 9, 3, 5, 1, 3)));
        missesBy("short of it, the other side", two(low, at(5, -9, 3, 5, -1, 3)));
        missesBy("parallel", two(low, at(0, 1, 3, 10, 1, 3)));
        SpillikinTable near = two(at(-1000, -1000, 0, 1000, 999, 0), at(1000, 1000, 5, 999, 999, 5));
        missesBy("beside it, far out", near);
        near.move(1, 0, -1, 0);
        crossesAt("at its end, far out", near, "1 5 0 -5");
    }

    static void seenInOneLine() {
        says(17, "PIECES CROSS if a point of p and one of q differ by a multiple of D alone: in one line");
        long[] low = at(0, 0, 0, 10, 0, 0);
        crossesAt("one over the other's end", two(low, at(10, 0, 3, 20, 0, 3)), "1 3 0 -3");
        crossesAt("one over the other's beginning", two(low, at(-10, 0, 3, 0, 0, 3)), "0 3 1 -3");
        missesBy("one behind the other", two(low, at(11, 0, 3, 20, 0, 3)));
        missesBy("one ahead of the other", two(low, at(-10, 0, 3, -1, 0, 3)));
        crossesAt("as long", two(low, at(10, 0, -4, 0, 0, -4)), "0 -4 0 4");
        crossesAt("the longer", two(low, at(-5, 0, 3, 15, 0, 3)), "0 3 1/4 -3");
        crossesAt("the shorter", two(low, at(7, 0, 3, 4, 0, 3)), "2/5 3 0 -3");
        crossesAt("both of length 1", two(at(0, 0, 0, 0, 1, 0), at(0, 0, 5, 0, 1, 5)), "0 5 0 -5");
        crossesAt("both of length 1, back", two(at(0, 1, 0, 0, 0, 0), at(0, 1, 5, 0, 0, 5)), "0 5 0 -5");
        crossesAt("both of length 1, one back", two(at(0, 1, 0, 0, 0, 0), at(0, 0, 5, 0, 1, 5)), "0 5 0 -5");
        crossesAt("both of length 1, end to end", two(at(0, 1, 0, 0, 0, 0), at(0, 0, 5, 0, -1, 5)), "1 5 0 -5");
        SpillikinTable line = two(at(0, 0, 0, 1, 2, 3), at(3, 6, 9, 4, 8, 12));
        missesBy("in one line in space", line);
        line.turn(1, 2, 3);
        crossesAt("seen as points, one behind the other", line, "0 2 0 -2");
        line.turn(-2, -4, -6);
        crossesAt("from the other side", line, "0 -1 0 1");
        line.turn(1, 2, 4);
        missesBy("a little aside", line);
    }

    static void seenAsPoints() {
        says(17, "PIECES CROSS: those that are seen as points");
        long[] post = at(0, 0, 0, 0, 0, 5);
        crossesAt("post over post", two(post, at(0, 0, 7, 0, 0, 9)), "0 2 0 -2");
        missesBy("post beside post", two(post, at(1, 0, 7, 1, 0, 9)));
        missesBy("post behind post", two(post, at(0, 1, 7, 0, 1, 9)));
        missesBy("post aslant of post", two(post, at(1, 1, 7, 1, 1, 9)));
        crossesAt("a stick's middle over it", two(post, at(-1, 0, 6, 1, 0, 8)), "0 2 1/2 -2");
        crossesAt("a stick's middle under it", two(post, at(-1, 0, -6, 1, 0, -8)), "0 -7 1/2 7");
        crossesAt("a stick's end over it", two(post, at(0, 0, 6, 1, 0, 8)), "0 1 0 -1");
        crossesAt("a stick's other end over it", two(post, at(1, 0, 8, 0, 0, 6)), "0 1 1 -1");
        crossesAt("a stick that sinks from over it", two(post, at(0, 0, 8, 1, 0, 6)), "0 3 0 -3");
        crossesAt("a stick that rises to over it", two(post, at(1, 0, 6, 0, 0, 8)), "0 3 1 -3");
        crossesAt("it under a stick that sinks", two(at(0, 0, 8, 1, 0, 6), post), "0 -3 0 3");
        crossesAt("it under a stick that rises", two(at(1, 0, 6, 0, 0, 8), post), "1 -3 0 3");
        missesBy("a stick short of it", two(post, at(1, 0, 8, 2, 0, 6)));
        missesBy("a stick beside it", two(post, at(-1, 1, 8, 1, 1, 6)));
        crossesAt("a post under a stick", two(at(-4, 0, 9, 4, 0, 9), post), "1/2 -4 0 4");
        SpillikinTable third = two(post, at(-1, 0, 6, 1, 0, 8));
        stick(third, 50, 50, 50, 60, 70, 80);
        crossesAt("once a stick was laid elsewhere", third, "0 2 1/2 -2");
        SpillikinTable slant = two(at(0, 0, 0, 2, 4, 6), at(6, 11, 18, 6, 13, 18));
        slant.turn(1, 2, 3);
        crossesAt("seen as a point from aslant", slant, "0 4 1/2 -4");
    }

    static void leastHeight() {
        says(19, "The HEIGHT of q over p is the t that is least in amount, with its sign");
        crossesAt("nearest at the end", two(at(0, 0, 0, 10, 0, 0), at(0, 0, 9, 10, 0, 4)), "0 4 0 -4");
        crossesAt("nearest at the beginning", two(at(0, 0, 0, 10, 0, 0), at(0, 0, 4, 10, 0, 9)), "0 4 0 -4");
        crossesAt("nearest at the end, below", two(at(0, 0, 0, 10, 0, 0), at(0, 0, -9, 10, 0, -4)), "0 -4 0 4");
        crossesAt("nearest inside the other", two(at(0, 0, 0, 10, 0, 0), at(-5, 0, 0, 15, 0, 20)), "0 5 1/4 -5");
        crossesAt("nearest inside the one", two(at(0, 0, 0, 8, 0, 1), at(2, 0, 9, 4, 0, 9)), "1/4 17/2 0 -17/2");
        crossesAt("alike all along", two(at(0, 0, 0, 10, 0, 7), at(0, 0, 2, 10, 0, 9)), "0 2 0 -2");
        crossesAt("post under post", two(at(0, 0, 9, 0, 0, 7), at(0, 0, 0, 0, 0, 5)), "0 -2 0 2");
        crossesAt("post over post", two(at(0, 0, 5, 0, 0, 0), at(0, 0, 9, 0, 0, 7)), "0 2 0 -2");
        crossesAt("post over post, both from the gap on", two(at(0, 0, 5, 0, 0, 0), at(0, 0, 7, 0, 0, 9)), "0 2 0 -2");
        crossesAt("post over post, both to the gap", two(at(0, 0, 0, 0, 0, 5), at(0, 0, 9, 0, 0, 7)), "0 2 0 -2");
        crossesAt("a post's top", two(at(-3, 0, 9, 3, 0, 12), at(0, 0, 5, 0, 0, 0)), "1/2 -11/2 0 11/2");
        crossesAt("-2/5, then -1", two(at(0, 0, 0, 5, 0, 3), at(4, 0, 2, 5, 0, 2)), "4/5 -2/5 0 2/5");
        crossesAt("-1, then -2/5", two(at(5, 0, 3, 0, 0, 0), at(4, 0, 2, 5, 0, 2)), "0 -2/5 0 2/5");
        crossesAt("2/5, then 1", two(at(0, 0, 0, 5, 0, -3), at(4, 0, -2, 5, 0, -2)), "4/5 2/5 0 -2/5");
        crossesAt("1, then 2/5", two(at(5, 0, -3, 0, 0, 0), at(4, 0, -2, 5, 0, -2)), "0 2/5 0 -2/5");
        SpillikinTable back = two(at(0, 0, 0, 10, 0, 0), at(0, 0, 9, 10, 0, 4));
        back.turn(0, 0, -8);
        crossesAt("the other way", back, "0 -1/2 0 1/2");
        SpillikinTable skew = two(at(0, 0, 0, 10, 0, 0), at(5, 0, 4, 9, 0, 1));
        skew.turn(1, 0, 1);
        crossesAt("aslant", skew, "1/10 1 0 -1");
    }

    static void leastPlace() {
        says(19, "the PLACE on p the least part (0 at its first POINT, 1 at its second) of p at which it is so");
        crossesAt("not where it is nearest", two(at(0, 0, 0, 10, 0, 0), at(2, 0, 9, 6, 0, 3)), "1/5 3 0 -3");
        crossesAt("of one that runs back", two(at(10, 0, 0, 0, 0, 0), at(2, 0, 9, 6, 0, 3)), "2/5 3 0 -3");
        crossesAt("of the other that runs back", two(at(0, 0, 0, 10, 0, 0), at(6, 0, 3, 2, 0, 9)), "1/5 3 0 -3");
        crossesAt("a post: all of it", two(at(0, 0, 0, 0, 0, 5), at(-1, -1, 9, 2, 2, 9)), "0 4 1/3 -4");
        crossesAt("of a longer one", two(at(4, 0, 0, 8, 0, 0), at(-1, 0, 1, 9, 0, 1)), "0 1 1/2 -1");
        crossesAt("0", two(at(0, 0, 0, 1, 0, 0), at(0, -1, 1, 0, 1, 1)), "0 1 1/2 -1");
        crossesAt("1", two(at(0, 0, 0, 1, 0, 0), at(1, -1, 1, 1, 1, 1)), "1 1 1/2 -1");
    }

    static void orderOfCrossings() {
        says(18, "in order of its PIECES, of their PLACES, then of the other STICK'S number and PIECE");
        SpillikinTable t = table();
        stick(t, 0, 0, 0, 30, 0, 0, 30, 30, 0);
        stick(t, 30, 20, 1, 29, 20, 1);
        stick(t, 20, -1, 2, 20, 0, 3, 20, 1, 4);
        stick(t, 20, -1, -3, 20, 1, -3);
        stick(t, 10, 1, 5, 10, 0, 5, 10, -1, 9);
        stick(t, 30, 0, 7, 30, 0, 8);
        int[][] due = {{0, 4, 0, 1}, {0, 4, 1, 1}, {0, 2, 0, 1}, {0, 2, 1, 1}, {0, 3, 0, 0}, {0, 5, 0, 1}, {1, 5, 0, 1},
            {1, 1, 0, 1}};
        is("crossings", t.crossings(0), due.length);
        for (int k = 0; k < due.length; k++) {
            for (int what = 0; what < 4; what++) {
                is("crossing(0, " + k + ", " + what + ")", t.crossing(0, k, what), due[k][what]);
            }
        }
        says(18, "in order of their PLACES: exactly");
        SpillikinTable close = table();
        stick(close, -1000, 0, 0, 999, 0, 0);
        stick(close, 1, -999, 5, 0, 999, 5);
        stick(close, 1, -998, 6, 0, 1000, 6);
        stick(close, 1, -1000, 7, 0, 998, 7);
        int[] order = {3, 1, 2};
        String[] places = {printed(close, 0, 0, PLACE), printed(close, 0, 1, PLACE), printed(close, 0, 2, PLACE)};
        for (int k = 0; k < 3; k++) {
            is("crossing(0, " + k + ", 1)", close.crossing(0, k, 1), order[k]);
        }
        is("places", places[0] + " " + places[1] + " " + places[2], "999499/1997001 2001/3998 500/999");
    }

    static void noMoreCrossings() {
        says(17, "How many CROSSINGS it has: none, or as many as there can be");
        SpillikinTable alone = table();
        stick(alone, 0, 0, 0, 1, 0, 0);
        is("one alone", alone.crossings(0), 0);
        is("its crossing 0", alone.crossing(0, 0, 0), -1);
        is("its print", alone.print(0, 0, PLACE), NONE);
        SpillikinTable most = table();
        most.row(0, 0, 9);
        long[] hook = {-1000, 0, 0, 1000, 1, 0, -1000, 2, 0};
        for (int i = 0; i < 9; i++) {
            most.put(0, 0, i, hook[i]);
        }
        most.lay(1, 0, 0, 0, 1);
        for (int i = 1; i < 40; i++) {
            long[] over = {20 * i - 400, -500, i, 20 * i - 399, 500, i, 20 * i - 398, -500, i};
            for (int n = 0; n < 9; n++) {
                most.put(0, 0, n, over[n]);
            }
            is("lay", most.lay(1, 0, 0, 0, 1), i);
        }
        is("of a hook under 39", most.crossings(0), 156);
        is("of one of these", most.crossings(39), 4);
        says(18, "-1 for more CROSSINGS or whats");
        for (int k : new int[] {-1, 156, 157, LEAST, GREATEST}) {
            for (int what = 0; what < 4; what++) {
                is("crossing(0, " + k + ", " + what + ")", most.crossing(0, k, what), -1);
            }
        }
        for (int what : new int[] {-1, 4, 5, LEAST, GREATEST}) {
            is("crossing(0, 155, " + what + ")", most.crossing(0, 155, what), -1);
        }
        is("the last", most.crossing(0, 155, 1), 1);
        is("its what 3", most.crossing(0, 155, 3), 1);
    }

    static void crossingsOfNow() {
        says(17, "CROSSINGS: with another STICK on the table, along the DIRECTION as they are now");
        SpillikinTable t = pile();
        is("crossings(1)", t.crossings(1), 2);
        t.away(2);
        is("without 2", t.crossings(1), 1);
        t.undo();
        is("with it again", t.crossings(1), 2);
        t.move(2, 0, 500, 0);
        is("with it moved off", t.crossings(1), 1);
        t.undo();
        is("with it moved back", t.crossings(1), 2);
        t.turn(1, 0, 0);
        is("along x", t.crossings(1), 0);
        t.turn(0, 0, 1);
        stick(t, -10, 2, 20, 10, 2, 20);
        is("with one more", t.crossings(1), 3);
        t.undo();
        is("without it", t.crossings(1), 2);
        t.lift(2);
        is("with one lifted", t.crossings(1), 1);
    }

    static void printedFractions() {
        says(19, "(p/q in lowest terms, - ahead of p; p alone if q is 1)");
        SpillikinTable t = table();
        stick(t, 0, 0, 0, 6, 0, 0);
        stick(t, 4, -1, 0, 4, 2, 9);
        is("lowest terms", printed(t, 0, 0, PLACE), "2/3");
        is("p alone", printed(t, 0, 0, HEIGHT), "3");
        is("- ahead of p alone", printed(t, 1, 0, HEIGHT), "-3");
        t.turn(0, 0, 2);
        is("half of it", printed(t, 0, 0, HEIGHT), "3/2");
        is("- ahead of p", printed(t, 1, 0, HEIGHT), "-3/2");
        t.turn(0, 0, -9);
        is("lowest terms with -", printed(t, 0, 0, HEIGHT), "-1/3");
        is("lowest terms without", printed(t, 1, 0, HEIGHT), "1/3");
        t.turn(0, 0, -3);
        is("-1", printed(t, 0, 0, HEIGHT), "-1");
        is("1", printed(t, 1, 0, HEIGHT), "1");
        says(19, "p alone if q is 1: a PLACE of 0 and of 1");
        SpillikinTable ends = two(at(0, 0, 0, 7, 0, 0), at(7, 0, 10, 7, 9, 10));
        is("1", printed(ends, 0, 0, PLACE), "1");
        is("0", printed(ends, 1, 0, PLACE), "0");
        is("10", printed(ends, 0, 0, HEIGHT), "10");
        SpillikinTable far = two(at(-1000, -1000, -1000, 1000, 999, -999), at(-1000, 1000, 998, 997, -998, 1000));
        far.turn(1, -2, 97);
        is("many digits", printed(far, 0, 0, HEIGHT), "15964035994/774826289");
        is("many digits with -", printed(far, 1, 0, HEIGHT), "-15964035994/774826289");
        is("count(3)", far.count(3), 22);
        SpillikinTable steep = two(at(997, -999, 997, -999, 997, -998), at(-1000, -997, -999, -998, 998, 999));
        steep.turn(100, 97, -100);
        crossesAt("ten digits", steep, "591823429/790927123 -7948113913/1581854246"
                + " 796204697/1581854246 7948113913/1581854246");
    }

    static void pageStays() {
        says(19, "NONE, and the PAGE stays, without one.");
        SpillikinTable t = pile();
        is("with none printed", t.print(0, 1, HEIGHT), NONE);
        is("the page is empty still", t.count(3), 0);
        is("octet(0)", t.octet(0), NONE);
        is("printed", printed(t, 0, 0, PLACE), "1/2");
        for (int k : new int[] {-1, 1, LEAST, GREATEST}) {
            is("crossing " + k, t.print(0, k, PLACE), NONE);
        }
        for (int what : new int[] {-1, 2, 3, LEAST, GREATEST}) {
            is("what " + what, t.print(0, 0, what), NONE);
        }
        noStick("no stick", () -> t.print(3, 0, HEIGHT));
        is("the page", page(t), "1/2");
        is("count(3)", t.count(3), 3);
        t.away(1);
        t.turn(1, 1, 1);
        t.undo();
        is("the page through acts and turns", page(t), "1/2");
        t.turn(0, 0, 1);
        is("a shorter one", printed(t, 0, 0, HEIGHT), "5");
        is("nothing of the longer one", t.octet(1), NONE);
        is("count(3) then", t.count(3), 1);
    }

    public static void main(String[] args) {
        oneAlone();
        anyDistance();
        crossAtEnds();
        seenInOneLine();
        seenAsPoints();
        leastHeight();
        leastPlace();
        orderOfCrossings();
        noMoreCrossings();
        crossingsOfNow();
        printedFractions();
        pageStays();
        conclude();
    }
}
