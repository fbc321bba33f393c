import java.util.NoSuchElementException;

/** What the tests of single answers share: to tell what is wrong, and to lay sticks in few words. */
abstract class TableCheck {
    static final int NONE = SpillikinTable.NONE;
    private static int wrong = 0;
    private static int promise = 0;
    private static String sentence = "";

    interface Call {
        void run();
    }

    /** The sentence of the document, under a promise or of the terms that it rests on, that is tested next. */
    static void says(int number, String words) {
        promise = number;
        sentence = "\"" + words + "\": ";
    }

    static void is(String what, long got, long want) {
        is(promise, sentence + what, got, want);
    }

    static void is(String what, boolean got, boolean want) {
        is(promise, sentence + what, got, want);
    }

    static void is(String what, String got, String want) {
        is(promise, sentence + what + " answered " + got + ", due is " + want, got.equals(want), true);
    }

    static void is(int number, String what, long got, long want) {
        if (got != want) {
            wrong++;
            System.out.println("promise " + number + ": " + what + " answered " + got + ", due is " + want);
        }
    }

    static void is(int number, String what, boolean got, boolean want) {
        is(number, what, got ? 1 : 0, want ? 1 : 0);
    }

    static void refuses(int number, String what, Class<? extends RuntimeException> due, Call call) {
        try {
            call.run();
            is(number, what + " throws", 0, 1);
        } catch (RuntimeException e) {
            is(number, what + " throws " + due.getSimpleName() + ", not " + e, e.getClass() == due, true);
        }
    }

    static void noBox(int number, String what, Call call) {
        refuses(number, what, IndexOutOfBoundsException.class, call);
    }

    static void noBox(String what, Call call) {
        noBox(promise, sentence + what, call);
    }

    static void noStick(int number, String what, Call call) {
        refuses(number, what, NoSuchElementException.class, call);
    }

    static void noStick(String what, Call call) {
        noStick(promise, sentence + what, call);
    }

    static void noArgument(int number, String what, Call call) {
        refuses(number, what, IllegalArgumentException.class, call);
    }

    static void noArgument(String what, Call call) {
        noArgument(promise, sentence + what, call);
    }

    static void conclude() {
        System.out.println(wrong == 0 ? "all answers are as due" : wrong + " answers are not as due");
        if (wrong != 0) {
            System.exit(1);
        }
    }

    /** Lays a stick of row 0 of box 0, which has 64 bits. */
    static int lay(SpillikinTable t, int kind, int mark, int worth, long... numbers) {
        t.row(0, 0, numbers.length);
        for (int i = 0; i < numbers.length; i++) {
            t.put(0, 0, i, numbers[i]);
        }
        return t.lay(kind, 0, 0, mark, worth);
    }

    static int stick(SpillikinTable t, long... numbers) {
        return lay(t, numbers.length >= 9 ? 1 : 0, 0, 1, numbers);
    }

    static SpillikinTable table() {
        SpillikinTable t = new SpillikinTable();
        t.box(2);
        return t;
    }

    /** 0 is barred by 1, which is barred by 2; all along x and y by turns. */
    static SpillikinTable pile() {
        SpillikinTable t = table();
        stick(t, -10, 0, 0, 10, 0, 0);
        stick(t, 0, -10, 5, 0, 10, 5);
        stick(t, -10, 1, 9, 10, 1, 9);
        return t;
    }

    /** 0 bars 1, 1 bars 2, 2 bars 0; 0 is worth what is told. */
    static SpillikinTable ring(int worth, int dx) {
        SpillikinTable t = table();
        addRing(t, worth, dx);
        return t;
    }

    static void addRing(SpillikinTable t, int worth, int dx) {
        lay(t, worth > 1 ? 3 : 0, 0, worth, dx - 10, 0, 0, dx + 10, 0, 20);
        addRestOfRing(t, dx);
    }

    static void addRestOfRing(SpillikinTable t, int dx) {
        stick(t, dx + 5, -10, 10, dx + 5, 12, 10);
        stick(t, dx - 10, -5, 8, dx + 6, 11, 8);
    }

    /** Sticks round a circle, each of which rises over the next one; each bars the next, the last the first. */
    static SpillikinTable circle(int n) {
        SpillikinTable t = table();
        double half = 900 * Math.tan(Math.PI / n) * 1.2;
        for (int i = 0; i < n; i++) {
            double x = Math.cos(2 * Math.PI * i / n);
            double y = Math.sin(2 * Math.PI * i / n);
            stick(t, Math.round(800 * x + half * y), Math.round(800 * y - half * x), -50,
                    Math.round(800 * x - half * y), Math.round(800 * y + half * x), 50);
        }
        return t;
    }

    static String page(SpillikinTable t) {
        StringBuilder text = new StringBuilder();
        for (int k = 0; t.octet(k) != NONE; k++) {
            text.append((char) t.octet(k));
        }
        return text.toString();
    }

    static void prints(int promise, SpillikinTable t, int s, int k, int what, String due) {
        is(promise, "print(" + s + ", " + k + ", " + what + ")", t.print(s, k, what), due.length());
        is(promise, "the page is " + page(t) + ", due is " + due, page(t).equals(due), true);
    }

    /** Each bars the other: a piece of 1 lies over 0, its other piece under it. */
    static SpillikinTable twoHooks() {
        SpillikinTable t = table();
        stick(t, -10, 0, 0, 10, 0, 0);
        stick(t, -5, -5, 5, -5, 5, 5, 5, -5, -15);
        return t;
    }

    /** Hooks side by side, each with a piece over and one under a common bar, which is number 0. */
    static SpillikinTable combs(int hooks, int barWorth) {
        SpillikinTable t = table();
        lay(t, barWorth > 1 ? 3 : 0, 0, barWorth, -500, 0, 0, 500, 0, 0);
        for (int i = 0; i < hooks; i++) {
            stick(t, 20 * i, -5, 5, 20 * i, 5, 5, 20 * i + 10, -5, -15);
        }
        return t;
    }
}
