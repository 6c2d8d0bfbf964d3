/** Promises 22 to 26: a test for each sentence that names a bound. */
public final class ThoughtBoundsTest {
    private static final int[] NO_LINES = {-1, 2, 3, 19, 20, Integer.MAX_VALUE, Integer.MIN_VALUE};
    private static final int[] NO_COUNTS = {-1, 61, 62, Integer.MAX_VALUE, Integer.MIN_VALUE};

    public static void main(String[] args) {
        wouldOf0To60();
        wouldTellsThree();
        wouldRefusals();
        hitchOf0To60();
        hitchRefusals();
        noneIsNotRefused();
        fitsBits0To60();
        fitsEachCountAlone();
        fitsRefusals();
        leastIs0To60();
        leastOfAllRows();
        leastIsOfNothingWorked();
        timesAre0To50();
        timesAreWhole();
        timesKnowWhatIsWorked();
        timesRefusals();
        thoughtKnowsNoFilled();
        thoughtChangesNothing();
        Due.end("ThoughtBoundsTest");
    }

    private static void wouldOf0To60() {
        KnitReader x = Due.knit(3, "<k>0", "<k>0,yo");
        for (int n = 0; n <= 60; n++) {
            Due.due("would(0, " + n + ", 0)", x.would(0, n, 0), n);
            Due.due("would(1, " + n + ", 0)", x.would(1, n, 0), n == 60 ? -1 : n + 1);
        }
    }

    /** How many there would be (what 0), how many STITCHES it had (1), its YARN (2). */
    private static void wouldTellsThree() {
        KnitReader x = Due.knit(0, "kt,bo,yo,sd", "<k>0");
        Due.due("would(0, 6, 0)", x.would(0, 6, 0), 3);
        Due.due("would(0, 6, 1)", x.would(0, 6, 1), 4);
        Due.due("would(0, 6, 2)", x.would(0, 6, 2), 58);
        for (int what = 0; what < 3; what++) {
            Due.due("would(0, 5, " + what + ")", x.would(0, 5, what), -1);
            Due.due("would(0, 7, " + what + ")", x.would(0, 7, what), -1);
            Due.due("would(1, 0, " + what + ")", x.would(1, 0, what), 0);
        }
    }

    private static void wouldRefusals() {
        KnitReader x = Due.knit(1, "k", "p");
        int refused = 0;
        for (int line : NO_LINES) {
            Due.refused(x, "would(" + line + ", 1, 0)", refused++, x.would(line, 1, 0), Due.BAD);
        }
        for (int n : NO_COUNTS) {
            Due.refused(x, "would(0, " + n + ", 0)", refused++, x.would(0, n, 0), Due.BAD);
        }
        int[] whats = {-1, 3, 4, Integer.MAX_VALUE, Integer.MIN_VALUE};
        for (int what : whats) {
            Due.refused(x, "would(0, 1, " + what + ")", refused++, x.would(0, 1, what), Due.BAD);
            Due.refused(x, "BAD, though there is a HITCH", refused++, x.would(0, 9, what), Due.BAD);
        }
    }

    private static void hitchOf0To60() {
        KnitReader x = Due.knit(0, "k30", "<k>0");
        for (int n = 0; n <= 60; n++) {
            Due.due("hitch(0, " + n + ")", x.hitch(0, n), n < 30 ? 1 : n > 30 ? 6 : -1);
            Due.due("hitch(1, " + n + ")", x.hitch(1, n), -1);
        }
        KnitReader y = Due.knit(0, "kt", "yo60,k", "<yo>0", "<k>2,k2", "k");
        Due.due("SHORT", y.hitch(0, 1), 1);
        Due.due("WIDE", y.hitch(1, 1), 2);
        Due.due("IDLE", y.hitch(2, 1), 4);
        Due.due("PAST", y.hitch(3, 1), 5);
        Due.due("OVERLEFT", y.hitch(4, 2), 6);
    }

    private static void hitchRefusals() {
        KnitReader x = Due.knit(1, "k", "p");
        int refused = 0;
        for (int line : NO_LINES) {
            Due.refused(x, "hitch(" + line + ", 1)", refused++, x.hitch(line, 1), Due.BAD);
        }
        for (int n : NO_COUNTS) {
            Due.refused(x, "hitch(0, " + n + ")", refused++, x.hitch(0, n), Due.BAD);
        }
    }

    private static void noneIsNotRefused() {
        KnitReader x = Due.knit(0, "k60,k", "yo");
        Due.due("would", x.would(0, 60, 0), -1);
        Due.due("hitch", x.hitch(1, 0), -1);
        Due.due("least", x.least(), -1);
        for (int what = 12; what <= 16; what++) {
            Due.due("status(" + what + ")", x.status(what), 0);
        }
        Due.due("causes()", x.causes(), 0);
    }

    /** Counts (bits 0 to 60) with which a ROW has no HITCH. */
    private static void fitsBits0To60() {
        KnitReader x = Due.knit(0, "<k>0", "yo", "k60", "k60,k", "<k>0,m", "<k>60,bo60");
        Due.due("all", x.fits(0), (1L << 61) - 1);
        Due.due("0 alone", x.fits(1), 1);
        Due.due("60 alone", x.fits(2), 1L << 60);
        Due.due("none", x.fits(3), 0);
        Due.due("all but 60", x.fits(4), (1L << 60) - 1);
        Due.due("60 alone", x.fits(5), 1L << 60);
    }

    private static void fitsEachCountAlone() {
        for (int n = 1; n <= 60; n++) {
            Due.due("fits of k" + n, Due.knit(0, "k" + n).fits(0), 1L << n);
            Due.due("fits of <k>" + n, Due.knit(0, "<k>" + n + ",p" + n).fits(0), (1L << 61) - (1L << n));
        }
    }

    /** Refused: the number less 9,000,000,000,000,000,000. */
    private static void fitsRefusals() {
        KnitReader x = Due.knit(1, "k", "p");
        for (int i = 0; i < NO_LINES.length; i++) {
            Due.due("fits(" + NO_LINES[i] + ")", x.fits(NO_LINES[i]), -9_000_000_000_000_000_092L);
            Due.due("BAD", x.status(12), i + 1);
        }
    }

    /** The least n (0 to 60); NONE. */
    private static void leastIs0To60() {
        Due.due("no ROWS", new KnitReader().least(), 0);
        Due.due("0", Due.knit(5, "yo", "k").least(), 0);
        for (int n = 1; n <= 60; n++) {
            Due.due("least of k" + n, Due.knit(0, "k" + n).least(), n);
        }
        Due.due("61", Due.knit(0, "k60,p").least(), -1);
        Due.due("least of several", Due.knit(0, "<k2>1,k").least(), 1);
        Due.due("30 of several", Due.knit(0, "k29,<kt>1,<k>0,m29").least(), 30);
    }

    private static void leastOfAllRows() {
        KnitReader x = new KnitReader();
        for (int i = 0; i < 20; i++) {
            Due.tell(x, "bo,<k>0");
            Due.due("least of " + (i + 1), x.least(), i + 1);
        }
        x.drop();
        Due.due("least behind drop", x.least(), 19);
        Due.tell(x, "k");
        Due.due("the last ROW tells", x.least(), 20);
        x.drop();
        Due.tell(x, "k42");
        Due.due("61 can't be", x.least(), -1);
        x.drop();
        Due.tell(x, "k41");
        Due.due("60 can", x.least(), 60);
    }

    private static void leastIsOfNothingWorked() {
        KnitReader x = Due.knit(7, "<k>3,k3");
        x.run(0, 0, 20);
        x.run(0, 0, 20);
        x.run(0, 0, 10);
        Due.due("least, with 7 and 50 WORKED", x.least(), 3);
    }

    /** How many times (0 to 50). */
    private static void timesAre0To50() {
        KnitReader x = Due.knit(60, "bo,<k>0", "<k>0", "k59");
        Due.due("60 could go, 50 may", x.times(0, 0), 50);
        Due.due("50", x.times(1, 1), 50);
        Due.due("0", x.times(2, 2), 0);
        for (int each = 2; each <= 20; each++) {
            KnitReader y = new KnitReader();
            for (int i = 0; i < each; i++) {
                Due.tell(y, "<p>0");
            }
            Due.due("times(0, " + (each - 1) + ")", y.times(0, each - 1), 50 / each);
        }
        for (int n = 1; n <= 60; n++) {
            KnitReader y = Due.knit(n, "bo,<k>0");
            Due.due("times of " + n, y.times(0, 0), Math.min(n, 50));
        }
    }

    private static void timesAreWhole() {
        KnitReader x = Due.knit(5, "bo,<k>0", "bo,<k>0", "yo,<k>0");
        Due.due("two and a half", x.times(0, 1), 2);
        Due.due("five", x.times(0, 0), 5);
        Due.due("as many as there is room for", x.times(1, 2), 25);
        Due.due("four of three", x.times(0, 2), 4);
    }

    private static void timesKnowWhatIsWorked() {
        KnitReader x = Due.knit(2, "k2", "p2", "sl2");
        int[] worked = {0, 1, 2, 3, 46, 47, 48, 49, 50};
        for (int many : worked) {
            while (x.status(1) < many) {
                x.work(0);
            }
            Due.due("of one, with " + many, x.times(1, 1), 50 - many);
            Due.due("of two, with " + many, x.times(1, 2), (50 - many) / 2);
            Due.due("of three, with " + many, x.times(0, 2), (50 - many) / 3);
        }
        Due.due("WORKED ROWS", x.status(1), 50);
    }

    private static void timesRefusals() {
        KnitReader x = Due.knit(1, "k", "p");
        int refused = 0;
        for (int line : NO_LINES) {
            Due.refused(x, "times(" + line + ", 1)", refused++, x.times(line, 1), Due.BAD);
            Due.refused(x, "times(0, " + line + ")", refused++, x.times(0, line), Due.BAD);
            Due.refused(x, "times(" + line + ", " + line + ")", refused++, x.times(line, line), Due.BAD);
        }
        Due.refused(x, "times(1, 0): lesser", refused, x.times(1, 0), Due.BAD);
        Due.due("times(0, 1)", x.times(0, 1), 25);
        Due.due("without ROWS", new KnitReader().times(0, 0), Due.BAD);
    }

    /** And no WORKED ROW: the HITCH is 1 to 6. */
    private static void thoughtKnowsNoFilled() {
        KnitReader x = Due.knit(1, "k");
        x.run(0, 0, 20);
        x.run(0, 0, 20);
        x.run(0, 0, 10);
        Due.due("would", x.would(0, 1, 0), 1);
        Due.due("hitch", x.hitch(0, 1), -1);
        Due.due("fits", x.fits(0), 2);
        Due.due("least", x.least(), 1);
        Due.due("times does", x.times(0, 0), 0);
    }

    private static void thoughtChangesNothing() {
        KnitReader x = Due.knit(4, "k4", "k3", "<k>0,yo");
        x.work(0);
        x.work(1);
        x.would(2, 9, 0);
        x.hitch(2, 60);
        x.fits(2);
        x.least();
        x.times(2, 2);
        Due.due("WORKED ROWS", x.status(1), 1);
        Due.due("STITCHES", x.status(2), 4);
        Due.due("SIDE", x.status(3), 1);
        Due.due("SEED", x.status(6), 1);
        Due.due("its STITCHES", x.workedOf(0, 1), 4);
        Due.whyIs(x, "WHY", 11, 1, 3, 6, 2, 1);
    }
}
