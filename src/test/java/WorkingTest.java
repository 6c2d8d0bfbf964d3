/** Promises 13 to 19: MODE, CAST, WORK, RUN, RIPPED BACK, and WHY, with each HITCH. */
public final class WorkingTest {
    public static void main(String[] args) {
        modes();
        casts();
        works();
        sidesTurn();
        timesAndTills();
        shortHitch();
        wideHitch();
        idleHitch();
        pastHitch();
        overleftHitch();
        filledHitch();
        chainsOfCauses();
        emptyTimesEnd();
        runs();
        hitchedRuns();
        wrongRuns();
        rips();
        whyIsKept();
        Due.end("WorkingTest");
    }

    private static void modes() {
        KnitReader x = Due.knit(0, "k4");
        Due.due("mode(1)", x.mode(1), 0);
        Due.due("status(4)", x.status(4), 1);
        Due.due("mode(1) again", x.mode(1), 1);
        Due.due("mode(0)", x.mode(0), 1);
        Due.refused(x, "mode(-1)", 0, x.mode(-1), Due.BAD);
        Due.refused(x, "mode(2)", 1, x.mode(2), Due.BAD);
        x.cast(4);
        Due.due("mode(1) with STITCHES", x.mode(1), 0);
        x.work(0);
        Due.refused(x, "mode(0) with WORKED ROWS", 0, x.mode(0), Due.STUCK);
        Due.refused(x, "BAD ahead of STUCK", 2, x.mode(2), Due.BAD);
        Due.due("status(4)", x.status(4), 1);
        Due.due("no WHY of it", x.causes(), 0);
        x.rip(1);
        Due.due("mode(0) behind rip", x.mode(0), 1);
    }

    private static void casts() {
        KnitReader x = Due.knit(0, "k", "bo", "yo");
        Due.refused(x, "cast(0)", 0, x.cast(0), Due.BAD);
        Due.refused(x, "cast(61)", 1, x.cast(61), Due.BAD);
        Due.refused(x, "cast(min)", 2, x.cast(Integer.MIN_VALUE), Due.BAD);
        Due.due("cast(1)", x.cast(1), 1);
        Due.due("status(2)", x.status(2), 1);
        Due.refused(x, "cast on STITCHES", 0, x.cast(5), Due.STUCK);
        Due.refused(x, "BAD ahead of STUCK", 3, x.cast(0), Due.BAD);
        Due.due("work(1)", x.work(1), 0);
        Due.refused(x, "cast with WORKED ROWS", 1, x.cast(5), Due.STUCK);
        Due.due("no WHY of it", x.causes(), 0);
        KnitReader y = Due.knit(0, "yo");
        Due.due("work on nothing", y.work(0), 1);
        Due.due("rip(1)", y.rip(1), 0);
        Due.due("cast(60)", y.cast(60), 60);
        Due.due("status(3)", y.status(3), 0);
    }

    private static void works() {
        KnitReader x = Due.knit(12, "k,p,sl,yo,m,kt,sk,bo,sd,k", "<k>0", "bo9", "<k>0", "yo3");
        Due.due("work(0)", x.work(0), 9);
        int[] kinds = {4, 5, 6, 7, 8, 9, 10, 11, 12, 4};
        int[] took = {0, 1, 2, 3, 3, 3, 5, 7, 8, 11};
        int[] made = {0, 1, 2, 3, 4, 5, 6, 7, 7, 8};
        for (int i = 0; i < kinds.length; i++) {
            Due.due("KIND " + i, x.stitch(0, i, 0), kinds[i]);
            Due.due("TOOK " + i, x.stitch(0, i, 1), took[i]);
            Due.due("MADE " + i, x.stitch(0, i, 2), made[i]);
        }
        Due.due("work(1)", x.work(1), 9);
        Due.due("work(2)", x.work(2), 0);
        Due.due("work(3) of none", x.work(3), 0);
        Due.due("it has no STITCHES", x.workedOf(3, 1), 0);
        Due.due("work(4)", x.work(4), 3);
        Due.due("status(1)", x.status(1), 5);
        Due.refused(x, "work(5)", 0, x.work(5), Due.BAD);
        Due.refused(x, "work(-1)", 1, x.work(-1), Due.BAD);
    }

    private static void sidesTurn() {
        KnitReader x = Due.knit(3, "k3");
        for (int i = 0; i < 4; i++) {
            Due.due("SIDE ahead of " + i, x.status(3), i % 2);
            x.work(0);
            Due.due("SIDE of " + i, x.workedOf(i, 0), i % 2);
        }
        KnitReader y = Due.knit(3, "k3");
        y.mode(1);
        for (int i = 0; i < 3; i++) {
            y.work(0);
            Due.due("SIDE in ROUND", y.status(3), 0);
            Due.due("SIDE in ROUND of " + i, y.workedOf(i, 0), 0);
        }
    }

    private static void timesAndTills() {
        KnitReader x = Due.knit(20, "((k,p)2,sl)3,<p2>2,k2", "<k,<p>2>2,k2", "<(kt)2>3,k3");
        Due.due("work(0): 15, then 5 left, 3, 1", x.hitch(0, 20), 5);
        Due.due("work(0) on 19", x.hitch(0, 19), -1);
        Due.due("would(0, 19, 1)", x.would(0, 19, 1), 19);
        Due.due("would(1, 9, 0)", x.would(1, 9, 0), 9);
        Due.due("would(1, 9, 2): k, p6, k2", x.would(1, 9, 2), 3 * 10 + 6 * 11);
        Due.due("would(2, 11, 0)", x.would(2, 11, 0), 7);
        Due.due("a < > that is done at once", x.would(1, 2, 1), 2);
    }

    private static void shortHitch() {
        KnitReader x = Due.knit(5, "k3,kt,k", "sd2", "k5,bo", "k4,(yo,kt)2", "k4,sk");
        Due.refused(x, "k3,kt,k on 5", 0, x.work(0), Due.STUCK);
        Due.whyIs(x, "k3,kt,k", 11, 0, 4, 1, 6, 0);
        x.work(1);
        Due.whyIs(x, "sd2", 11, 1, 1, 1, 0, 2);
        x.work(2);
        Due.whyIs(x, "k5,bo", 11, 2, 5, 1, 3, 0);
        x.work(3);
        Due.whyIs(x, "k4,(yo,kt)2", 11, 3, 5, 10, 3, 1, 1, 7, 1);
        x.work(4);
        Due.whyIs(x, "k4,sk", 11, 4, 4, 1, 3, 1);
        Due.due("nothing is done", x.status(1), 0);
        Due.due("nothing is done", x.status(2), 5);
        Due.due("nothing is done", x.status(3), 0);
        Due.due("refusals", x.status(15), 5);
    }

    private static void wideHitch() {
        KnitReader x = Due.knit(60, "k59,yo,k", "k60", "k58,m2,k", "k59,yo,kt");
        Due.due("k60", x.work(1), 60);
        x.work(0);
        Due.whyIs(x, "k59,yo,k", 11, 0, 60, 2, 7, 1);
        x.work(2);
        Due.whyIs(x, "k58,m2,k", 11, 2, 60, 2, 7, 2);
        x.work(3);
        Due.whyIs(x, "SHORT is less than WIDE", 11, 3, 60, 1, 7, 1);
        KnitReader y = Due.knit(0, "yo60", "yo60,m");
        Due.due("yo60", y.work(0), 60);
        y.rip(1);
        y.work(1);
        Due.whyIs(y, "yo60,m", 11, 1, 60, 2, 5, 0);
        KnitReader z = Due.knit(60, "yo60,bo60", "yo60,sl");
        Due.due("OFF makes none", z.work(0), 60);
        z.work(1);
        Due.whyIs(z, "yo60,sl", 11, 1, 60, 2, 5, 60);
    }

    private static void idleHitch() {
        KnitReader x = Due.knit(9, "k,<yo>3", "(<k,<m,yo>2>1)2", "<<k>8>3", "<(<k>20)2>3,k3", "k9,<yo>0");
        x.work(0);
        Due.whyIs(x, "k,<yo>3", 11, 0, 2, 4, 2, 8);
        x.work(1);
        Due.whyIs(x, "in others", 11, 1, 3, 10, 0, 1, 10, 1, 1, 4, 4, 8);
        x.work(2);
        Due.whyIs(x, "the second time is idle", 11, 2, 1, 4, 0, 8);
        x.work(3);
        Due.whyIs(x, "PAST in the < > comes first", 11, 3, 0, 10, 0, 1, 10, 1, 1, 5, 2, 9);
        Due.due("no time at all isn't idle", x.work(4), 9);
    }

    private static void pastHitch() {
        KnitReader x = Due.knit(5, "<k2>2,k", "<k>6", "k,(k,<kt>1,<p>3)2", "<k5>0", "<k5>5,k5");
        x.work(0);
        Due.whyIs(x, "<k2>2,k", 11, 0, 4, 5, 0, 1);
        x.work(1);
        Due.whyIs(x, "fewer ahead of it", 11, 1, 0, 5, 0, 5);
        x.work(2);
        Due.whyIs(x, "in others", 11, 2, 3, 10, 2, 1, 5, 11, 1);
        Due.due("<k5>0", x.work(3), 5);
        Due.due("<k5>5,k5", x.work(4), 5);
    }

    private static void overleftHitch() {
        KnitReader x = Due.knit(5, "k4", "(k2)2,yo", "<k>1", "yo");
        x.work(0);
        Due.whyIs(x, "k4", 11, 0, 4, 6, 2, 1);
        x.work(1);
        Due.whyIs(x, "(k2)2,yo", 11, 1, 5, 6, 8, 1);
        x.work(2);
        Due.whyIs(x, "<k>1", 11, 2, 4, 6, 4, 1);
        x.work(3);
        Due.whyIs(x, "yo", 11, 3, 1, 6, 2, 5);
    }

    private static void filledHitch() {
        KnitReader x = Due.knit(7, "k7", "k9");
        Due.due("run(0, 0, 20)", x.run(0, 0, 20), 20);
        Due.due("run(0, 0, 20)", x.run(0, 0, 20), 20);
        Due.due("run(0, 0, 9)", x.run(0, 0, 9), 9);
        Due.due("the 50th", x.work(0), 7);
        Due.refused(x, "the 51st", 0, x.work(0), Due.STUCK);
        Due.whyIs(x, "FILLED", 11, 0, 0, 7, 0, 7);
        x.work(1);
        Due.whyIs(x, "FILLED is looked at first", 11, 1, 0, 7, 0, 7);
        x.run(0, 1, 3);
        Due.whyIs(x, "FILLED in a RUN", 12, 1, 0, 11, 0, 0, 7, 0, 7);
        Due.due("rip(2)", x.rip(2), 48);
        Due.refused(x, "run(0, 0, 3)", 3, x.run(0, 0, 3), Due.STUCK);
        Due.whyIs(x, "FILLED later", 12, 3, 0, 11, 0, 0, 7, 0, 7);
        Due.due("status(1)", x.status(1), 50);
        Due.due("hitch knows no FILLED", x.hitch(0, 7), -1);
        Due.due("nor does would", x.would(0, 7, 0), 7);
        Due.due("nor least", x.least(), -1);
        Due.due("nor fits", x.fits(0), 1L << 7);
    }

    private static void chainsOfCauses() {
        KnitReader x = Due.knit(10, "k,((k,p)2,<sl,(kt,k)2>1)3", "((((k,(p,bo)2)2)1)1)1", "<k,(p)1>4,<(((k2)1,p)1)3>0,k");
        x.work(0);
        // k; k p k p: 5 left; sl, kt k: 1 left, then kt
        Due.whyIs(x, "three in one another", 11, 0, 8, 10, 2, 1, 10, 10, 1, 10, 14, 2, 1, 15, 1);
        Due.due("(k,(p,bo)2)2 on 10", x.work(1), 6);
        Due.due("it was WORKED", x.status(1), 1);
        x.work(1);
        Due.whyIs(x, "five in one another", 11, 1, 6, 10, 0, 1, 10, 1, 1, 10, 2, 1, 10, 3, 2, 10, 6, 1, 1, 7, 0);
        x.work(2);
        Due.whyIs(x, "the first < > is over", 11, 2, 6, 10, 10, 1, 10, 11, 2, 10, 12, 1, 10, 13, 1, 1, 14, 0);
    }

    /** Times without a STITCH: 60 times 60 times 60 times 60 of them must not take long. */
    private static void emptyTimesEnd() {
        KnitReader x = Due.knit(60, "((((<k>60)60)60)60)60,k60", "((((<k>59,<k>60)60)60)60)60,k60", "((((<k>60,<k>60,<k>60)60)60)60)60");
        Due.due("would", x.would(0, 60, 1), 60);
        Due.due("PAST", x.hitch(1, 60), 5);
        Due.due("OVERLEFT", x.hitch(2, 60), 6);
        Due.due("fits", x.fits(0), 1L << 60);
        Due.due("work", x.work(0), 60);
    }

    private static void runs() {
        KnitReader x = Due.knit(10, "k10", "kt,k8", "<k>0", "k9,yo", "p10");
        Due.due("run(0, 3, 2)", x.run(0, 3, 2), 8);
        int[] rows = {0, 1, 2, 3, 0, 1, 2, 3};
        for (int i = 0; i < rows.length; i++) {
            Due.due("ROW of " + i, x.workedOf(i, 5), rows[i]);
        }
        Due.due("run(4, 4, 1)", x.run(4, 4, 1), 1);
        Due.due("status(2)", x.status(2), 10);
        Due.due("status(1)", x.status(1), 9);
        Due.due("causes()", x.causes(), 0);
    }

    private static void hitchedRuns() {
        KnitReader x = Due.knit(10, "<k>0", "kt,<k>0", "<p>6,(p3,p3)1");
        Due.refused(x, "run(0, 2, 20)", 0, x.run(0, 2, 20), Due.STUCK);
        Due.whyIs(x, "run(0, 2, 20)", 12, 5, 2, 11, 2, 0, 5, 0, 5);
        Due.due("what was WORKED stays", x.status(1), 14);
        Due.due("so many", x.status(2), 5);
        x.run(2, 2, 3);
        Due.whyIs(x, "run(2, 2, 3)", 12, 1, 2, 11, 2, 0, 5, 0, 5);
        KnitReader y = Due.knit(6, "k3,(k,(kt)1)1", "k5");
        y.run(0, 1, 7);
        Due.whyIs(y, "in ROW 0, the second time", 12, 2, 0, 11, 0, 4, 10, 3, 1, 10, 6, 1, 1, 7, 1);
        Due.due("two stay", y.status(1), 2);
        KnitReader z = Due.knit(6, "(<((<k>5,kt)2,sl)1>0,k)3");
        z.run(0, 0, 1);
        Due.whyIs(z, "PAST in the second time", 12, 1, 0, 11, 0, 2, 10, 0, 1, 10, 1, 1, 10, 2, 1, 10, 3, 2, 5, 4, 3);
        KnitReader w = Due.knit(6, "(<((<k,sd2>4,kt)2,sl)1>0,k)3");
        w.run(0, 0, 1);
        Due.whyIs(w, "the longest chain", 12, 1, 0, 11, 0, 2, 10, 0, 1, 10, 1, 1, 10, 2, 1, 10, 3, 1, 10, 4, 1, 1, 7, 2);
    }

    private static void wrongRuns() {
        KnitReader x = Due.knit(2, "k2", "p2");
        int[][] bad = {{-1, 0, 1}, {0, 2, 1}, {2, 2, 1}, {1, 0, 1}, {0, 1, 0}, {0, 1, 21}, {0, 1, -1}, {0, Integer.MAX_VALUE, 1},
            {Integer.MIN_VALUE, 0, 1}};
        for (int i = 0; i < bad.length; i++) {
            Due.refused(x, "run, bad " + i, i, x.run(bad[i][0], bad[i][1], bad[i][2]), Due.BAD);
        }
        Due.due("nothing is done", x.status(1), 0);
        Due.due("run(0, 1, 20)", x.run(0, 1, 20), 40);
    }

    private static void rips() {
        KnitReader x = Due.knit(6, "k6", "k4,kt", "k,yo,k4", "sk,k4");
        Due.refused(x, "rip(1) of none", 0, x.rip(1), Due.BAD);
        Due.due("run(0, 3, 1)", x.run(0, 3, 1), 4);
        Due.refused(x, "rip(0)", 1, x.rip(0), Due.BAD);
        Due.refused(x, "rip(5)", 2, x.rip(5), Due.BAD);
        Due.refused(x, "rip(-1)", 3, x.rip(-1), Due.BAD);
        Due.refused(x, "rip(min)", 4, x.rip(Integer.MIN_VALUE), Due.BAD);
        Due.due("status(2)", x.status(2), 5);
        Due.due("rip(1)", x.rip(1), 3);
        Due.due("status(2)", x.status(2), 6);
        Due.due("status(3)", x.status(3), 1);
        Due.due("rip(1)", x.rip(1), 2);
        Due.due("status(2)", x.status(2), 5);
        Due.due("status(3)", x.status(3), 0);
        Due.due("rip(2)", x.rip(2), 0);
        Due.due("status(2)", x.status(2), 6);
        Due.due("status(3)", x.status(3), 0);
        Due.due("WORKED anew", x.work(1), 5);
        Due.due("its ROW", x.workedOf(0, 5), 1);
    }

    private static void whyIsKept() {
        KnitReader x = Due.knit(3, "k3", "k4", "k2");
        Due.due("causes() at first", x.causes(), 0);
        Due.refused(x, "why(0, 0) of none", 0, x.why(0, 0), Due.BAD);
        x.work(1);
        x.work(0);
        x.rip(1);
        x.work(9);
        x.would(2, 1, 0);
        x.hitch(2, 5);
        x.fits(0);
        x.least();
        x.times(1, 2);
        x.drop();
        x.drop();
        x.mode(1);
        x.cast(5);
        Due.whyIs(x, "the latest in truth", 11, 1, 3, 1, 0, 0);
        x.days(9);
        Due.whyIs(x, "days keep none", 11, 1, 3, 1, 0, 0);
        Due.due("BAD so far", x.status(12), 2);
        Due.refused(x, "why(2, 0)", 2, x.why(2, 0), Due.BAD);
        Due.refused(x, "why(-1, 0)", 3, x.why(-1, 0), Due.BAD);
        Due.refused(x, "why(0, 3)", 4, x.why(0, 3), Due.BAD);
        Due.refused(x, "why(0, -1)", 5, x.why(0, -1), Due.BAD);
    }
}
