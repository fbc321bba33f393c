import java.lang.management.ManagementFactory;

/**
 * A run of 512 calls that are as dear as can be stays far inside the room that all calls share:
 * 5,000,000 bytes are less than 600,000 objects and less than 7.3 million fields and elements.
 */
public final class SpillikinTableRoom {
    private static final long MOST_BYTES = 5_000_000;

    private static long bytes() {
        return ((com.sun.management.ThreadMXBean) ManagementFactory.getThreadMXBean()).getCurrentThreadAllocatedBytes();
    }

    /** Forty hooks under each other, seen from all sides; answers what it saw. */
    private static long run() {
        SpillikinTable t = new SpillikinTable();
        long seen = 0;
        int calls = 1;
        for (int i = 0; i < 8; i++) {
            t.box(2);
        }
        t.row(0, 0, 9);
        int[] bend = {-900, 0, -900, 900, 0, -900, 900, 900, 0};
        for (int i = 0; i < 9; i++) {
            t.put(0, 0, i, bend[i]);
        }
        calls += 18;
        for (int i = 0; i < 40; i++) {
            t.put(0, 0, 1, 5 * i);
            t.put(0, 0, 5, 40 * i - 800);
            t.put(0, 0, 8, 20 * (i * 7 % 40));
            seen += t.lay(1, 0, 0, 0, 1) >= 0 ? 1 : 0;
            calls += 4;
        }
        for (int i = 0; calls < 512; i++, calls += 4) {
            t.turn(i % 7 - 3, i % 5 - 2, 1 + i % 3);
            seen += 1000 * Math.max(0, t.knots());
            seen += t.crossings(t.after(SpillikinTable.NONE));
            seen += t.fewest();
        }
        return seen;
    }

    public static void main(String[] args) {
        long most = 0;
        long seen = 0;
        for (int i = 0; i < 3; i++) {
            long before = bytes();
            seen = run();
            most = Math.max(most, bytes() - before);
        }
        System.out.println(most + " bytes for 512 calls (seen: " + seen + ")");
        if (most > MOST_BYTES || seen < 1000) {
            System.out.println("that is too much, or the run saw too little");
            System.exit(1);
        }
    }
}
