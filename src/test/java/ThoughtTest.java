/** Promises 22 to 26: what would be, were a ROW worked: nothing is changed by asking. */
public final class ThoughtTest {
    public static void main(String[] args) {
        would();
        hitches();
        fits();
        least();
        times();
        nothingIsChanged();
        Due.end("ThoughtTest");
    }

    private static void would() {
        KnitReader x = Due.knit(3, "kt,yo2,<p>1,bo", "yo60", "<k>0", "(sd,m)3,k");
        Due.due("would(0, 5, 0)", x.would(0, 5, 0), 5);
        Due.due("would(0, 5, 1)", x.would(0, 5, 1), 6);
        Due.due("would(0, 5, 2)", x.would(0, 5, 2), 12 + 26 + 22 + 15);
        Due.due("would(0, 2, 0)", x.would(0, 2, 0), -1);
        Due.due("would(0, 3, 0)", x.would(0, 3, 0), 3);
        Due.due("would(0, 60, 0)", x.would(0, 60, 0), 60);
        Due.due("would(1, 0, 0)", x.would(1, 0, 0), 60);
        Due.due("would(1, 0, 2)", x.would(1, 0, 2), 780);
        Due.due("would(1, 1, 1)", x.would(1, 1, 1), -1);
        for (int n = 0; n <= 60; n++) {
            for (int what = 0; what < 3; what++) {
                Due.due("would(2, " + n + ", " + what + ")", x.would(2, n, what), what == 2 ? 10 * n : n);
            }
        }
        Due.due("would(3, 10, 2)", x.would(3, 10, 2), 3 * 27 + 10);
        Due.due("NONE isn't refused", x.status(12) + x.status(15), 0);
        int[][] bad = {{-1, 0, 0}, {4, 0, 0}, {0, -1, 0}, {0, 61, 0}, {0, 5, -1}, {0, 5, 3}, {0, 2, 3}};
        for (int i = 0; i < bad.length; i++) {
            Due.refused(x, "would, bad " + i, i, x.would(bad[i][0], bad[i][1], bad[i][2]), Due.BAD);
        }
    }

    private static void hitches() {
        KnitReader x = Due.knit(3, "kt,<k>2,k2", "<yo>4,k4", "k5,yo60", "(<k3>2,k2)1", "kt,yo59,<k2>1,k");
        Due.due("SHORT", x.hitch(0, 1), 1);
        Due.due("PAST", x.hitch(0, 3), 5);
        Due.due("none", x.hitch(0, 4), -1);
        Due.due("none", x.hitch(0, 60), -1);
        Due.due("IDLE", x.hitch(1, 5), 4);
        Due.due("PAST", x.hitch(1, 3), 5);
        Due.due("none", x.hitch(1, 4), -1);
        Due.due("WIDE", x.hitch(2, 5), 2);
        Due.due("SHORT", x.hitch(2, 4), 1);
        Due.due("PAST in the ( )", x.hitch(3, 7), 5);
        Due.due("none", x.hitch(3, 8), -1);
        Due.due("PAST at once", x.hitch(3, 0), 5);
        Due.due("WIDE", x.hitch(4, 3), 2);
        KnitReader y = Due.knit(0, "k2", "yo");
        Due.due("OVERLEFT", y.hitch(0, 3), 6);
        Due.due("OVERLEFT", y.hitch(1, 60), 6);
        Due.due("none", y.hitch(1, 0), -1);
        Due.due("refusals", y.status(12) + y.status(15), 0);
        int[][] bad = {{-1, 0}, {2, 0}, {0, -1}, {0, 61}};
        for (int i = 0; i < bad.length; i++) {
            Due.refused(y, "hitch, bad " + i, i, y.hitch(bad[i][0], bad[i][1]), Due.BAD);
        }
    }

    private static void fits() {
        KnitReader x = Due.knit(3, "k2,<p2,k2>0", "<k>0", "k60", "<k,yo>0", "<k>7,p7", "<sd,k>3,bo3", "k,<yo>0", "yo", "k6");
        long[] bits = new long[9];
        for (int n = 0; n <= 60; n++) {
            bits[0] |= n % 4 == 2 ? 1L << n : 0;
            bits[1] |= 1L << n;
            bits[3] |= n <= 30 ? 1L << n : 0;
            bits[4] |= n >= 7 ? 1L << n : 0;
            bits[5] |= n % 4 == 3 ? 1L << n : 0;
        }
        bits[2] = 1L << 60;
        bits[6] = 2;
        bits[7] = 1;
        bits[8] = 64;
        for (int i = 0; i < bits.length; i++) {
            Due.due("fits(" + i + ")", x.fits(i), bits[i]);
        }
        Due.due("fits(9)", x.fits(9), -92 - Due.FAR);
        Due.due("fits(-1)", x.fits(-1), -92 - Due.FAR);
        Due.due("refused", x.status(12), 2);
    }

    private static void least() {
        Due.due("without ROWS", new KnitReader().least(), 0);
        Due.due("k9", Due.knit(0, "k9").least(), 9);
        Due.due("<k>0", Due.knit(0, "<k>0").least(), 0);
        Due.due("one behind the other", Due.knit(0, "<k>3,kt,k", "<k>6,p6").least(), 7);
        Due.due("never", Due.knit(0, "k9", "k8").least(), -1);
        Due.due("k60", Due.knit(3, "k60").least(), 60);
        Due.due("k60,k", Due.knit(0, "k60,k").least(), -1);
        Due.due("the second of two counts", Due.knit(0, "<k2>0,yo", "<k2,p>0").least(), 2);
        KnitReader x = Due.knit(5, "k5");
        x.work(0);
        Due.due("on nothing WORKED", x.least(), 5);
        Due.due("NONE isn't refused", x.status(12) + x.status(15), 0);
    }

    private static void times() {
        KnitReader x = Due.knit(10, "kt,<k>0", "<p>0", "k10", "k5,m5,k5");
        Due.due("times(0, 0)", x.times(0, 0), 9);
        Due.due("times(0, 1)", x.times(0, 1), 9);
        Due.due("times(1, 1)", x.times(1, 1), 50);
        Due.due("times(1, 2)", x.times(1, 2), 25);
        Due.due("times(2, 2)", x.times(2, 2), 50);
        Due.due("times(3, 3)", x.times(3, 3), 1);
        Due.due("times(0, 2)", x.times(0, 2), 0);
        Due.due("work(0)", x.work(0), 9);
        Due.due("times(0, 0) on 9", x.times(0, 0), 8);
        Due.due("times(1, 1) with one WORKED", x.times(1, 1), 49);
        Due.due("times(2, 2) on 9", x.times(2, 2), 0);
        x.run(1, 1, 20);
        x.run(1, 1, 20);
        Due.due("times(1, 1) with 41", x.times(1, 1), 9);
        Due.due("times(0, 1) with 41", x.times(0, 1), 4);
        x.run(1, 1, 9);
        Due.due("times(1, 1) with 50", x.times(1, 1), 0);
        Due.due("nothing refused", x.status(12) + x.status(15), 0);
        int[][] bad = {{-1, 0}, {0, 4}, {4, 4}, {1, 0}, {0, Integer.MAX_VALUE}, {Integer.MIN_VALUE, 0}};
        for (int i = 0; i < bad.length; i++) {
            Due.refused(x, "times, bad " + i, i, x.times(bad[i][0], bad[i][1]), Due.BAD);
        }
    }

    private static void nothingIsChanged() {
        KnitReader x = Due.knit(9, "k9", "k8,yo", "k4");
        x.work(0);
        x.work(2);
        x.would(1, 8, 0);
        x.hitch(1, 3);
        x.fits(1);
        x.least();
        x.times(0, 1);
        Due.due("WORKED ROWS", x.status(1), 1);
        Due.due("the needle", x.status(2), 9);
        Due.due("SIDE", x.status(3), 1);
        Due.due("STITCHES", x.workedOf(0, 1), 9);
        Due.whyIs(x, "as it was", 11, 2, 4, 6, 2, 5);
    }
}
