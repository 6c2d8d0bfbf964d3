import java.lang.management.ManagementFactory;

/** All calls of one run live in one room: what 512 calls of each kind make stays small. */
public final class RoomTest {
    private static final int CALLS = 512;
    private static final long MOST_BYTES = 4_000_000;

    public static void main(String[] args) {
        com.sun.management.ThreadMXBean threads = (com.sun.management.ThreadMXBean) ManagementFactory.getThreadMXBean();
        for (int call = 0; call < 47; call++) {
            // once ahead of it, so that no class is loaded while it is measured
            go(full(), call);
            KnitReader x = full();
            long before = threads.getCurrentThreadAllocatedBytes();
            go(x, call);
            long made = threads.getCurrentThreadAllocatedBytes() - before;
            Due.due("call " + call + " made " + made + " bytes", made < MOST_BYTES ? 1 : 0, 1);
        }
        go(full(), 99);
        long before = threads.getCurrentThreadAllocatedBytes();
        KnitReader made = new KnitReader();
        long bytes = threads.getCurrentThreadAllocatedBytes() - before;
        Due.due("a new object, " + made.status(0) + ", made " + bytes + " bytes", bytes < 1_000_000 ? 1 : 0, 1);
        Due.end("RoomTest");
    }

    private static KnitReader full() {
        KnitReader x = Due.knit(60, "(yo,bo)60", "k60", "<(k,<yo,kt>59)1>0,yo", "((((<k>60,<k>60)60)60)60)60,k60");
        x.run(0, 1, 20);
        x.row(0, 3, 40);
        x.row(1, 3, 40);
        x.show(2, 0, 0);
        x.image();
        return x;
    }

    private static void go(KnitReader x, int call) {
        for (int i = 0; i < CALLS; i++) {
            if (call < 20) {
                change(x, call, i);
            } else {
                ask(x, call, i);
            }
        }
    }

    private static void change(KnitReader x, int call, int i) {
        switch (call) {
            case 0: x.row(i % 8, i % 5, 40); break;
            case 1: x.set(0, i % 40, i); break;
            case 2: x.copy(0, 1, 0, 0, 40); break;
            case 3: x.show(i % 8, i % 40, i % 60); break;
            case 4: x.feed(i % 2 == 0 ? 'k' : ','); break;
            case 5: x.wipe(); break;
            case 6: feedAndTell(x, i); break;
            case 7: x.drop(); break;
            case 8: x.mode(i % 2); break;
            case 9: x.cast(60); break;
            case 10: workOrRip(x, i); break;
            case 11: runOrRip(x, i); break;
            case 12: x.rip(1); break;
            case 13: x.days(60); break;
            case 14: x.seed(i); break;
            case 15: x.image(); break;
            case 16: x.back(); break;
            case 17: x.work(2); break;
            case 18: x.run(2, 2, 20); break;
            default: x.line(); break;
        }
    }

    /** Two ROWS of 250 bytes. */
    private static void feedAndTell(KnitReader x, int i) {
        if (i % 251 == 250) {
            x.line();
        } else {
            x.feed(i % 251 % 2 == 0 || i % 251 == 249 ? 'k' : ',');
        }
    }

    private static void workOrRip(KnitReader x, int i) {
        if (i % 2 == 0) {
            x.work(0);
        } else {
            x.rip(1);
        }
    }

    private static void runOrRip(KnitReader x, int i) {
        if (i % 2 == 0) {
            x.rip(x.status(1));
        } else {
            x.run(0, 1, 20);
        }
    }

    private static void ask(KnitReader x, int call, int i) {
        switch (call) {
            case 20: x.element(0, i % 40); break;
            case 21: x.holds(i % 8); break;
            case 22: x.says(2, i % 13); break;
            case 23: x.causes(); break;
            case 24: x.why(i % 9, i % 3); break;
            case 25: x.lineOf(i % 4, i % 4); break;
            case 26: x.text(i % 4, i % 20); break;
            case 27: x.would(i % 4, i % 61, i % 3); break;
            case 28: x.hitch(i % 4, i % 61); break;
            case 29: x.fits(i % 4); break;
            case 30: x.least(); break;
            case 31: x.times(i % 2, 1); break;
            case 32: x.workedOf(i % 40, i % 6); break;
            case 33: x.stitch(i % 40, i % 60, i % 3); break;
            case 34: x.chart(i % 40, i % 60); break;
            case 35: x.shorthand(0, i); break;
            case 36: x.unit(i % 40); break;
            case 37: x.mirrored(i % 40, i % 60); break;
            case 38: x.even(i % 40); break;
            case 39: x.roots(i % 40, i % 60); break;
            case 40: x.origin(i % 60); break;
            case 41: x.yarn(); break;
            case 42: x.many(i % 13); break;
            case 43: x.differ(i % 40, i % 39); break;
            case 44: x.judge(i % 40, 0, i % 41); break;
            default: x.status(i % 17); break;
        }
    }
}
