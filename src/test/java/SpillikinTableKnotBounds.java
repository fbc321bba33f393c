/** For each sentence on orders, knots and proofs that names a boundary case, a test of its own (promises 20 to 29). */
public final class SpillikinTableKnotBounds extends TableCheck {
    private static final int LEAST = Integer.MIN_VALUE;
    private static final int GREATEST = Integer.MAX_VALUE;

    /** Forty posts, each over all that were laid ahead of it. */
    private static SpillikinTable tower() {
        SpillikinTable t = table();
        t.row(0, 0, 6);
        for (int i = 0; i < 40; i++) {
            t.put(0, 0, 2, 2 * i);
            t.put(0, 0, 5, 2 * i + 1);
            t.lay(0, 0, 0, 0, 1);
        }
        return t;
    }

    /** A bar with hooks that bar it and are barred by it: one knot of hooks + 1. */
    private static void addComb(SpillikinTable t, int y, int hooks) {
        stick(t, -500, y, 0, 500, y, 0);
        for (int i = 0; i < hooks; i++) {
            stick(t, 20 * i, y - 5, 5, 20 * i, y + 5, 5, 20 * i + 10, y - 5, -15);
        }
    }

    private static String ring(SpillikinTable t, int k) {
        return listed(t, k, 1);
    }

    private static String knot(SpillikinTable t, int k) {
        return listed(t, k, 0);
    }

    private static String listed(SpillikinTable t, int k, int what) {
        StringBuilder text = new StringBuilder();
        for (int i = 0; t.knot(k, what, i) != NONE; i++) {
            text.append(i == 0 ? "" : " ").append(t.knot(k, what, i));
        }
        return text.toString();
    }

    private static String few(SpillikinTable t) {
        StringBuilder text = new StringBuilder().append(t.fewest()).append(':');
        for (int i = 0; t.few(i) != NONE; i++) {
            text.append(' ').append(t.few(i));
        }
        return text.toString();
    }

    private static String order(SpillikinTable t) {
        StringBuilder text = new StringBuilder();
        for (int k = 0; t.order(k) != NONE; k++) {
            text.append(k == 0 ? "" : " ").append(t.order(k));
        }
        return text.toString();
    }

    private static int checked(SpillikinTable t, int how, int... proof) {
        for (int i = 0; i < proof.length; i++) {
            is("push(" + proof[i] + ")", t.push(proof[i]), i + 1);
        }
        return t.check(how);
    }

    static void withoutSticks() {
        says(20, "a table without STICKS");
        SpillikinTable made = new SpillikinTable();
        SpillikinTable emptied = table();
        stick(emptied, 0, 0, 0, 1, 0, 0);
        emptied.away(0);
        for (SpillikinTable t : new SpillikinTable[] {made, emptied}) {
            is("order(0)", t.order(0), NONE);
            is("order(-1)", t.order(-1), NONE);
            is("knots()", t.knots(), 0);
            is("knot(0, 0, 0)", t.knot(0, 0, 0), NONE);
            is("knot(0, 1, 0)", t.knot(0, 1, 0), NONE);
            is("fewest()", t.fewest(), 0);
            is("few(0)", t.few(0), NONE);
            is("pairs", t.count(5), 0);
            noStick("free(0)", () -> t.free(0));
            noStick("layer(0)", () -> t.layer(0));
            is("the empty proof as an order", t.check(0), NONE);
            is("the empty proof as a row", t.check(1), 0);
            is("a stick that is not there, as an order", checked(t, 0, 0), 0);
            is("a stick that is not there, as a row", checked(t, 1, 0), 0);
        }
    }

    static void oneFreeStick() {
        says(20, "one FREE STICK alone");
        SpillikinTable t = table();
        stick(t, 0, 0, 0, 1, 0, 0);
        is("free(0)", t.free(0), true);
        is("order", order(t), "0");
        is("knots()", t.knots(), 0);
        is("fewest", few(t), "0:");
        is("layer(0)", t.layer(0), 0);
        is("its order", checked(t, 0, 0), NONE);
        is("it alone is no row", checked(t, 1, 0), 1);
        is("it twice is no row", checked(t, 1, 0, 0), 1);
        is("nothing is no order", t.check(0), 0);
    }

    static void noneBars() {
        says(20, "A STICK is FREE if none on the table BARS it.");
        SpillikinTable t = tower();
        is("the lowest", t.free(0), false);
        is("the last but one", t.free(38), false);
        is("the highest", t.free(39), true);
        t.away(39);
        is("the last but one then", t.free(38), true);
        t.undo();
        is("and then", t.free(38), false);
        t.turn(0, 0, -1);
        is("the lowest, from below", t.free(0), true);
        is("the highest, from below", t.free(39), false);
        t.turn(1, 0, 0);
        is("from the side", t.free(17), true);
    }

    static void orders() {
        says(21, "the free one with the least number is taken, then of those that are left the free one with the least number");
        SpillikinTable t = table();
        stick(t, -10, 0, 0, 10, 0, 0);
        stick(t, 0, -10, 5, 0, 10, 5);
        stick(t, 500, 0, 0, 501, 0, 0);
        stick(t, 600, 0, 9, 600, 0, 8);
        stick(t, 600, 0, 7, 600, 0, 6);
        is("the order", order(t), "1 0 2 3 4");
        SpillikinTable tall = tower();
        for (int k = 0; k < 40; k++) {
            is("order(" + k + ")", tall.order(k), 39 - k);
        }
        says(21, "The k-th STICK of ORDER, from 0 on; NONE.");
        for (int k : new int[] {-1, 40, 41, LEAST, GREATEST}) {
            is("order(" + k + ")", tall.order(k), NONE);
        }
        says(21, "and so on, as long as there is one");
        SpillikinTable knot = table();
        stick(knot, 600, 0, 7, 600, 0, 6);
        addRing(knot, 1, 0);
        stick(knot, 600, 0, 9, 600, 0, 8);
        stick(knot, -9, -4, -50, -9, -4, -60);
        is("what is not held", order(knot), "4 0");
        is("the next", knot.order(2), NONE);
        is("of a knot alone", order(twoHooks()), "");
        SpillikinTable most = table();
        for (int i = 0; i < 37; i++) {
            stick(most, 100 + i, 0, 0, 100 + i, 9, 0);
        }
        addRing(most, 1, 0);
        is("37 beside a knot: the last", most.order(36), 36);
        is("the next", most.order(37), NONE);
        is("knots", most.knots(), 1);
        is("the knot's sticks", knot(most, 0), "37 38 39");
        is("layer", most.layer(0), NONE);
    }

    static void knotsOfTwoOrMore() {
        says(22, "A KNOT is a greatest set of two or more STICKS that all are HELD TOGETHER.");
        is("no knot of one", pile().knots(), 0);
        SpillikinTable two = twoHooks();
        is("a knot of two", two.knots(), 1);
        is("its sticks", knot(two, 0), "0 1");
        SpillikinTable comb = combs(3, 1);
        is("rings with a stick in common are one", comb.knots(), 1);
        is("its sticks", knot(comb, 0), "0 1 2 3");
        SpillikinTable over = ring(1, 0);
        addRing(over, 1, 100);
        for (int s = 3; s < 6; s++) {
            over.move(s, -100, 0, 100);
        }
        is("one bars the other, not the other way", over.bars(3, 2), true);
        is("they are two", over.knots(), 2);
        is("the first", knot(over, 0), "0 1 2");
        is("the second", knot(over, 1), "3 4 5");
        is("none is free", order(over), "");
        SpillikinTable held = ring(1, 0);
        stick(held, -9, -4, -50, -9, -4, -60);
        stick(held, -9, -4, 50, -9, -4, 60);
        is("what bars it or is barred by it is not of it", knot(held, 0), "0 1 2");
        SpillikinTable most = table();
        most.row(0, 0, 9);
        for (int i = 0; i < 20; i++) {
            int x = 40 * i - 400;
            long[] bar = {x - 10, 0, 0, x + 10, 0, 0};
            long[] hook = {x - 5, -5, 5, x - 5, 5, 5, x + 5, -5, -15};
            put(most, bar);
            most.lay(0, 0, 0, 0, 1);
            put(most, hook);
            most.lay(1, 0, 0, 0, 1);
        }
        is("twenty of two", most.knots(), 20);
        is("the last", knot(most, 19), "38 39");
        is("fewest of twenty", most.fewest(), 20);
        is("the last of these", most.few(19), 38);
        is("a whole forty", circle(40).knots(), 1);
    }

    private static void put(SpillikinTable t, long[] numbers) {
        for (int i = 0; i < numbers.length; i++) {
            t.put(0, 0, i, numbers[i]);
        }
    }

    static void noSuchKnot() {
        says(23, "The i-th STICK (rising) of KNOT k (what 0), or of its RING (1); NONE.");
        SpillikinTable t = ring(1, 0);
        for (int what = 0; what <= 1; what++) {
            for (int at : new int[] {-1, 3, 4, 40, LEAST, GREATEST}) {
                is("knot(0, " + what + ", " + at + ")", t.knot(0, what, at), NONE);
            }
            for (int k : new int[] {-1, 1, 2, 20, LEAST, GREATEST}) {
                is("knot(" + k + ", " + what + ", 0)", t.knot(k, what, 0), NONE);
            }
        }
        for (int what : new int[] {-1, 2, LEAST, GREATEST}) {
            is("knot(0, " + what + ", 0)", t.knot(0, what, 0), NONE);
        }
        is("its sticks", knot(t, 0), "0 1 2");
        is("its ring", ring(t, 0), "0 2 1");
        SpillikinTable loose = pile();
        is("without a knot", loose.knot(0, 0, 0), NONE);
        is("without a ring", loose.knot(0, 1, 0), NONE);
        says(23, "KNOTS are numbered by their least STICKS.");
        SpillikinTable mixed = table();
        stick(mixed, -10, 0, 0, 10, 0, 20);
        addRing(mixed, 1, 100);
        addRestOfRing(mixed, 0);
        is("the first", knot(mixed, 0), "0 4 5");
        is("the second", knot(mixed, 1), "1 2 3");
        mixed.away(0);
        stick(mixed, -10, 0, 0, 10, 0, 20);
        is("the other is the first now", knot(mixed, 0), "1 2 3");
        is("and this the second", knot(mixed, 1), "4 5 6");
    }

    static void rings() {
        says(23, "The RING of a KNOT: of rows, no one twice, those of the fewest; of these the first one");
        SpillikinTable fewer = ring(1, 0);
        stick(fewer, -10, -3, 20, -8, -5, 20, -8, -1, -10);
        is("one knot", knot(fewer, 0), "0 1 2 3");
        is("two are fewer than three", ring(fewer, 0), "2 3");
        SpillikinTable bars = combs(3, 1);
        is("of three rings the first, by its second", ring(bars, 0), "0 1");
        SpillikinTable late = table();
        stick(late, 0, -5, 5, 0, 5, 5, 10, -5, -15);
        stick(late, 20, -5, 5, 20, 5, 5, 30, -5, -15);
        stick(late, -500, 0, 0, 500, 0, 0);
        is("of two rings the first, by its first", ring(late, 0), "0 2");
        SpillikinTable back = ring(1, 0);
        back.turn(0, 0, -1);
        is("a ring the other way round", ring(back, 0), "0 1 2");
        SpillikinTable twelve = circle(12);
        is("of all twelve", ring(twelve, 0), "0 11 10 9 8 7 6 5 4 3 2 1");
        SpillikinTable many = circle(40);
        is("its first", many.knot(0, 1, 0), 0);
        is("its second", many.knot(0, 1, 1), 39);
        is("its last", many.knot(0, 1, 39), 1);
        is("no more", many.knot(0, 1, 40), NONE);
    }

    static void knotsOfNow() {
        says(23, "KNOT k; NONE: as the table is now");
        SpillikinTable t = ring(1, 0);
        addRing(t, 1, 100);
        is("the second", knot(t, 1), "3 4 5");
        is("its ring", ring(t, 1), "3 5 4");
        is("few", few(t), "2: 0 3");
        t.away(4);
        is("the second is none", t.knot(1, 0, 0), NONE);
        is("and has no ring", t.knot(1, 1, 0), NONE);
        is("few without it", few(t), "1: 0");
        t.away(0);
        is("the first is none", t.knot(0, 0, 0), NONE);
        is("few without both", few(t), "0:");
        t.undo();
        t.undo();
        is("the second again", knot(t, 1), "3 4 5");
        t.turn(0, 0, -1);
        is("the rings from below", ring(t, 0) + ", " + ring(t, 1), "0 1 2, 3 4 5");
        t.turn(0, 1, 0);
        is("from the side", t.knots(), 0);
        is("few from the side", few(t), "0:");
        t.turn(0, 0, 1);
        for (int s = 3; s < 6; s++) {
            t.away(s);
        }
        t.move(1, 0, 0, 50);
        is("moved away from each other", t.knots(), 0);
        t.undo();
        is("moved back", ring(t, 0), "0 2 1");
    }

    static void thirteenHeld() {
        says(24, "(Told if no KNOT has more than 12 STICKS.) -1: a KNOT has more than 12.");
        is("a comb of 12", few(combs(11, 1)), "1: 0");
        is("a comb of 13", few(combs(12, 1)), "-1:");
        is("a circle of 12", few(circle(12)), "1: 0");
        is("a circle of 13", few(circle(13)), "-1:");
        is("is a knot", circle(13).knots(), 1);
        is("a circle of 40", few(circle(40)), "-1:");
        SpillikinTable both = table();
        addComb(both, 0, 11);
        addComb(both, 100, 11);
        is("two of 12", few(both), "2: 0 12");
        stick(both, 400, 95, 5, 400, 105, 5, 410, 95, -15);
        is("one of 12 and one of 13", few(both), "-1:");
        says(25, "NONE (also without FEWEST)");
        is("few(0)", both.few(0), NONE);
        is("few(-1)", both.few(-1), NONE);
        both.undo();
        is("two of 12 again", few(both), "2: 0 12");
        SpillikinTable first = table();
        addComb(first, 0, 12);
        addComb(first, 100, 1);
        is("one of 13 and one of 2", few(first), "-1:");
        is("both are knots", first.knots(), 2);
        first.away(3);
        is("one of 12 and one of 2", few(first), "2: 0 13");
    }

    static void noSuchFew() {
        says(25, "The i-th STICK of FEWEST; NONE");
        SpillikinTable t = ring(5, 0);
        addRing(t, 1, 100);
        is("both", few(t), "2: 1 3");
        for (int i : new int[] {-1, 2, 3, 40, LEAST, GREATEST}) {
            is("few(" + i + ")", t.few(i), NONE);
        }
        is("without a knot", few(pile()), "0:");
    }

    static void leastWorth() {
        says(24, "the one with the least WORTH together; of these with the fewest STICKS");
        is("a bar of 10 or 11 hooks", few(combs(11, 10)), "10: 0");
        is("a bar of 11 or 11 hooks", few(combs(11, 11)), "11: 0");
        is("a bar of 12 or 11 hooks", few(combs(11, 12)), "11: 1 2 3 4 5 6 7 8 9 10 11");
        is("a bar of 100 or a hook", few(combs(1, 100)), "1: 1");
        is("a bar of 2 or a hook", few(combs(1, 2)), "1: 1");
        SpillikinTable dear = table();
        lay(dear, 3, 0, 100, -10, 0, 0, 10, 0, 20);
        lay(dear, 3, 0, 100, 5, -10, 10, 5, 12, 10);
        lay(dear, 3, 0, 100, -10, -5, 8, 6, 11, 8);
        is("three of 100", few(dear), "100: 0");
        SpillikinTable last = table();
        lay(last, 3, 0, 100, -10, 0, 0, 10, 0, 20);
        lay(last, 3, 0, 99, 5, -10, 10, 5, 12, 10);
        lay(last, 3, 0, 98, -10, -5, 8, 6, 11, 8);
        is("the last is the least", few(last), "98: 2");
        SpillikinTable late = table();
        stick(late, 0, -5, 5, 0, 5, 5, 10, -5, -15);
        stick(late, 20, -5, 5, 20, 5, 5, 30, -5, -15);
        lay(late, 3, 0, 2, -500, 0, 0, 500, 0, 0);
        is("one of 2 rather than two of 1, though it is later", few(late), "2: 2");
    }

    private static final long[][] PATH = {{-500, 0, 0, 500, 0, 0}, {0, -5, 5, 0, 25, 5, 10, -5, -115},
        {-500, 20, 0, 500, 20, 0}, {50, 15, 5, 50, 25, 5, 60, 15, -15}};

    /** Four in a line, each of which bars the next and is barred by it: laid in an order that is told. */
    private static String fewOfPath(int... sequence) {
        SpillikinTable t = table();
        for (int piece : sequence) {
            stick(t, PATH[piece]);
        }
        is("pairs", t.count(5), 6);
        return few(t);
    }

    static void firstOfFewest() {
        says(24, "of these the first one (STICKS rising; by the first, the second, and so on)");
        is("in their order", fewOfPath(0, 1, 2, 3), "2: 0 2");
        is("the last first", fewOfPath(3, 0, 1, 2), "2: 0 2");
        is("the second first, the last second", fewOfPath(1, 3, 0, 2), "2: 0 1");
        is("the second, the first, the third", fewOfPath(1, 0, 2, 3), "2: 0 2");
        is("the ends first", fewOfPath(0, 3, 1, 2), "2: 0 3");
        is("a ring of three", few(ring(1, 0)), "1: 0");
        SpillikinTable t = table();
        addComb(t, 0, 2);
        stick(t, 0, 95, 5, 0, 105, 5, 10, 95, -15);
        stick(t, 20, 95, 5, 20, 105, 5, 30, 95, -15);
        stick(t, -500, 100, 0, 500, 100, 0);
        is("a bar that is laid first, and one that is laid last", few(t), "2: 0 5");
    }

    static void layers() {
        says(26, "a FREE STICK is in LAYER 0, others in one more than the greatest LAYER of those that BAR them");
        SpillikinTable t = pile();
        stick(t, -8, -1, 50, -8, 0, 50);
        is("barred by one of layer 1 and one of layer 0", t.layer(0), 2);
        is("a free one", t.layer(3), 0);
        SpillikinTable tall = tower();
        is("the highest of forty", tall.layer(39), 0);
        is("the next", tall.layer(38), 1);
        is("the lowest", tall.layer(0), 39);
        says(26, "NONE if there is a KNOT.");
        SpillikinTable knot = ring(1, 0);
        stick(knot, 500, 0, 0, 501, 0, 0);
        for (int s = 0; s < 4; s++) {
            is("layer(" + s + ")", knot.layer(s), NONE);
        }
        knot.away(0);
        is("a free one without it", knot.layer(3), 0);
        is("layer(1) without it", knot.layer(1), 0);
        is("layer(2) without it", knot.layer(2), 1);
        knot.undo();
        is("with it again", knot.layer(3), NONE);
    }

    static void fortyPushed() {
        says(27, "how many; NONE, and none comes, if there are 40.");
        SpillikinTable t = tower();
        for (int i = 0; i < 40; i++) {
            is("push", t.push(39 - i), i + 1);
        }
        is("a 41st", t.push(0), NONE);
        is("a 42nd", t.push(GREATEST), NONE);
        is("the forty are an order", t.check(0), NONE);
        is("it is empty then", t.push(LEAST), 1);
        is("whatever is pushed", t.push(GREATEST), 2);
        is("it is not there", t.check(0), 0);
        says(28, "the place of the first STICK that is wrong: the fortieth");
        for (int i = 0; i < 40; i++) {
            t.push(i == 39 ? 1 : 39 - i);
        }
        is("the last is there already", t.check(0), 39);
        for (int i = 0; i < 39; i++) {
            t.push(39 - i);
        }
        is("the last lacks", t.check(0), 39);
    }

    static void wrongOrders() {
        says(28, "the place of the first STICK that is wrong (not there, there already, not free)");
        SpillikinTable t = pile();
        is("not there", checked(t, 0, 3, 2, 1, 0), 0);
        is("not there, below 0", checked(t, 0, NONE, 2, 1, 0), 0);
        is("not there, the least", checked(t, 0, 2, LEAST), 1);
        is("not there, the greatest", checked(t, 0, 2, 1, GREATEST), 2);
        is("there already", checked(t, 0, 2, 1, 1, 0), 2);
        is("there already, when all are", checked(t, 0, 2, 1, 0, 2), 3);
        is("not there, when all are", checked(t, 0, 2, 1, 0, 3), 3);
        is("not free", checked(t, 0, 0, 1, 2), 0);
        is("not free, then", checked(t, 0, 2, 0, 1), 1);
        is("the first of two that are wrong", checked(t, 0, 2, 0, 9), 1);
        is("an order", checked(t, 0, 2, 1, 0), NONE);
        says(28, "or of what lacks (the length)");
        is("none", t.check(0), 0);
        is("one", checked(t, 0, 2), 1);
        is("two", checked(t, 0, 2, 1), 2);
        t.away(0);
        is("without 0", checked(t, 0, 2, 1), NONE);
        is("one that is away", checked(t, 0, 2, 1, 0), 2);
        is("all are there still", t.count(1), 2);
        SpillikinTable knot = ring(1, 0);
        is("the first of a knot", checked(knot, 0, 0, 1, 2), 0);
    }

    static void wrongRows() {
        says(28, "as a row each of which BARS the one ahead, the first the last (1; two at least, none twice)");
        SpillikinTable two = twoHooks();
        is("two", checked(two, 1, 0, 1), NONE);
        is("two, from the other on", checked(two, 1, 1, 0), NONE);
        is("one lacks", checked(two, 1, 0), 1);
        is("two lack", two.check(1), 0);
        is("one twice", checked(two, 1, 0, 0), 1);
        is("round and round", checked(two, 1, 0, 1, 0, 1), 2);
        is("round and round from the other on", checked(two, 1, 1, 0, 1, 0), 2);
        is("one that is not there", checked(two, 1, 2), 0);
        is("then one that is not there", checked(two, 1, 0, 2), 1);
        SpillikinTable t = ring(1, 0);
        for (int from = 0; from < 3; from++) {
            is("from " + from, checked(t, 1, from, (from + 2) % 3, (from + 1) % 3), NONE);
            is("the wrong way from " + from, checked(t, 1, from, (from + 1) % 3, (from + 2) % 3), 1);
            is("round and to " + from, checked(t, 1, from, (from + 2) % 3, (from + 1) % 3, from), 3);
        }
        says(28, "not barring the one ahead");
        is("the third", checked(t, 1, 0, 2, 0), 2);
        SpillikinTable chain = pile();
        is("at place 2", checked(chain, 1, 0, 1, 0), 2);
        is("at place 1", checked(chain, 1, 0, 2, 1), 1);
        says(28, "of a row whose first one doesn't bar the last 0");
        is("two", checked(chain, 1, 0, 1), 0);
        is("three", checked(chain, 1, 0, 1, 2), 0);
        is("two of a ring of three", checked(t, 1, 0, 2), 0);
        SpillikinTable forty = circle(40);
        for (int i = 0; i < 40; i++) {
            forty.push((57 - i) % 40);
        }
        is("a row of forty", forty.check(1), NONE);
        for (int i = 0; i < 39; i++) {
            forty.push((57 - i) % 40);
        }
        is("the fortieth is left out", forty.check(1), 0);
    }

    static void emptyThen() {
        says(28, "The proof is looked at and is empty then");
        SpillikinTable t = pile();
        for (int how = 0; how <= 1; how++) {
            t.push(2);
            t.push(1);
            t.check(how);
            is("push once it was looked at", t.push(2), 1);
            t.check(1 - how);
            is("an order that is one", checked(t, 0, 2, 1, 0), NONE);
            is("push once it was good", t.push(9), 1);
            t.check(how);
        }
        says(28, "IllegalArgumentException: another how.");
        t.push(2);
        t.push(1);
        for (int how : new int[] {-1, 2, LEAST, GREATEST}) {
            noArgument("check(" + how + ")", () -> t.check(how));
        }
        is("the proof stays", t.push(0), 3);
        is("it is an order", t.check(0), NONE);
        says(28, "The proof is looked at: as the table is then");
        t.push(2);
        t.push(0);
        t.away(1);
        is("without 1", t.check(0), NONE);
    }

    static void bytesOfThePage() {
        says(29, "Byte k of the PAGE; NONE.");
        SpillikinTable t = pile();
        for (int k : new int[] {LEAST, -1, 0, 1, GREATEST}) {
            is("of an empty page: octet(" + k + ")", t.octet(k), NONE);
        }
        t.print(1, 0, 1);
        is("'-'", t.octet(0), 45);
        is("'5'", t.octet(1), 53);
        t.print(0, 0, 0);
        is("'1'", t.octet(0), 49);
        is("'/'", t.octet(1), 47);
        is("'2'", t.octet(2), 50);
        for (int k : new int[] {LEAST, -1, 3, 4, 39, 40, GREATEST}) {
            is("octet(" + k + ")", t.octet(k), NONE);
        }
    }

    static void callsUpToTheLast() {
        says(1, "An object is used for at most 512 calls after it has been made");
        SpillikinTable t = pile();
        int calls = 1 + 3 * 8;
        for (int i = 0; calls < 505; i++, calls += 3) {
            t.turn(0, 0, i % 2 == 0 ? -100 : 100);
            is("bars", t.bars(0, 1), i % 2 == 0);
            is("move", t.move(2, i % 4 < 2 ? 1 : -1, 0, 0), 1);
        }
        t.turn(0, 0, 1);
        is("call " + (calls + 2), t.undo(), 2);
        is("call " + (calls + 3), t.order(2), 0);
        is("call " + (calls + 4), t.count(4), 7);
        is("call " + (calls + 5), t.check(0), 0);
        is("call " + (calls + 6), t.octet(0), NONE);
        is("the last call", calls + 7, 512);
        is("call " + (calls + 7), t.count(1), 3);
        SpillikinTable pushes = new SpillikinTable();
        for (int i = 1; i <= 512; i++) {
            is("push " + i, pushes.push(i), i <= 40 ? i : NONE);
        }
        SpillikinTable boxes = new SpillikinTable();
        for (int i = 1; i <= 8; i++) {
            boxes.box(i % 3);
        }
        for (int i = 9; i <= 512; i++) {
            refuses(2, "box, call " + i, IllegalStateException.class, () -> boxes.box(0));
        }
    }

    public static void main(String[] args) {
        withoutSticks();
        oneFreeStick();
        noneBars();
        orders();
        knotsOfTwoOrMore();
        noSuchKnot();
        rings();
        knotsOfNow();
        thirteenHeld();
        noSuchFew();
        leastWorth();
        firstOfFewest();
        layers();
        fortyPushed();
        wrongOrders();
        wrongRows();
        emptyThen();
        bytesOfThePage();
        callsUpToTheLast();
        conclude();
    }
}
