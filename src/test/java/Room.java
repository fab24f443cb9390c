import java.lang.management.ManagementFactory;

/**
 * What a run of 512 calls makes stays far below its room (600,000 objects, 7.3 million elements): counted in
 * bytes, of which an object has 16 at least. One object, and the dearest calls in their dearest form.
 */
public final class Room {
    private static final long MOST_BYTES = 1_500_000;
    private static long sink = 0;

    private static GreedyServers full() {
        GreedyServers x = new GreedyServers();
        for (int s = 0; s < 6; s++) {
            x.keep(s, 1, s, 1);
            x.comes(s, 2, 20);
            for (int i = 0; i < 4; i++) {
                x.sends(s, 9, i);
            }
        }
        x.row(6, 0, 100);
        for (int i = 0; i < 100; i++) {
            x.put(6, i, -128);
        }
        return x;
    }

    private static void dearCalls(GreedyServers x, int which) {
        switch (which) {
            case 0: sink += x.whoRan(6, 3, 1); break;
            case 1: sink += x.days(20, 7, 0); break;
            case 2: sink += x.needs(0, 60); break;
            case 3: sink += x.breaks(0, 7, 20, 0); break;
            case 4: sink += x.send(60); break;
            case 5: sink += x.judge(6); break;
            case 6: sink += x.image() + x.restore(); break;
            case 7: sink += x.row(7, 2, 100); break;
            case 8: sink += x.tray(0, 0, 20) + x.like(1, 0); break;
            case 9: sink += x.toss(5); break;
            case 10: sink += x.kindBest(0, 60, 0); break;
            default: sink += x.two(0, 1, 60) + x.quiet(0) + x.misses(-1) + x.text(6); break;
        }
    }

    public static void main(String[] args) {
        com.sun.management.ThreadMXBean threads =
            (com.sun.management.ThreadMXBean) ManagementFactory.getThreadMXBean();
        long most = 0;
        for (int which = 0; which < 12; which++) {
            dearCalls(full(), which);
            long before = threads.getThreadAllocatedBytes(Thread.currentThread().getId());
            GreedyServers x = full();
            for (int i = 0; i < 512; i++) {
                dearCalls(x, which);
            }
            long made = threads.getThreadAllocatedBytes(Thread.currentThread().getId()) - before;
            most = Math.max(most, made);
            if (made > MOST_BYTES) {
                System.out.println("dear call " + which + " makes " + made + " bytes in 512 calls");
            }
        }
        System.out.println("at most " + most + " bytes in a run" + (sink == Long.MIN_VALUE ? "!" : ""));
        if (most > MOST_BYTES) {
            System.exit(1);
        }
    }
}
