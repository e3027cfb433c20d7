import java.lang.management.ManagementFactory;

/**
 * All calls of a run live in one room, so what an object takes must be small and its calls must take
 * nothing: only the constructor and listener() may make anything.
 */
public final class RoomTest {
    static final com.sun.management.ThreadMXBean THREADS =
            (com.sun.management.ThreadMXBean) ManagementFactory.getThreadMXBean();
    static long sink = 0;

    static long taken() {
        return THREADS.getThreadAllocatedBytes(Thread.currentThread().getId());
    }

    static OneCall fullHouse() {
        OneCall x = new OneCall();
        for (int l = 0; l < 10; l++) x.listener(l % 5);
        return x;
    }

    /** Every call but listener(), the dear ones with as much to do as there can be. */
    static void useAll(OneCall x, int pieces) {
        for (int p = 0; p < pieces; p++) sink += x.piece(p * 77L);
        for (int l = 0; l < 10; l++) {
            sink += x.wants(l, l % pieces);
            for (int p = 0; p < pieces; p++) if ((p + l) % 3 == 1) sink += x.has(l, 1 << p);
        }
        for (int i = 0; i < 10; i++) {
            sink += x.below() + x.above() + x.order(i) + x.group(i) + x.least() + x.planned(i);
            sink += x.need(i, 0) + x.needs() + x.plan(1, 2, 4, 8) + x.off(4, i % 2) + x.left();
            for (int p = 0; p < pieces; p++) sink += x.lack(i, p) + x.why(i, p) + x.gets(i, p) + x.solve(i, p) + x.bytes(p);
            for (int w = 0; w < 9; w++) sink += x.about(i, w) + x.count(w) + x.rowOf(i, w) + x.heard(i, w) + x.call(w, 1) + x.sum(w);
            sink += i < 5 ? x.say(i + 1) + x.goOn() : x.again(i - 5) + x.finish();
        }
    }

    public static void main(String[] args) {
        int wrong = 0;
        for (int round = 0; round < 3; round++) {
            for (int pieces = 5; pieces <= 10; pieces += 5) {
                long before = taken();
                OneCall x = fullHouse();
                long made = taken() - before;
                before = taken();
                useAll(x, pieces);
                long used = taken() - before;
                // The first round loads classes, which takes room that is not the program's.
                if (round == 0) continue;
                if (made > 40_000) { wrong++; System.out.println("an object takes " + made + " bytes"); }
                if (used > 1_000) { wrong++; System.out.println("the calls take " + used + " bytes"); }
                if (round == 2) System.out.println("an object with ten listeners takes " + made + " bytes, its calls " + used);
            }
        }
        if (wrong != 0) System.exit(1);
        if (sink == 42) System.out.println();
    }
}
