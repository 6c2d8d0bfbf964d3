/** WORKING and promises 13 to 19: a test for each sentence that names a bound. */
public final class WorkBoundsTest {
    private static final String[] WORDS = {"k", "p", "sl", "yo", "m", "kt", "sk", "bo", "sd"};
    private static final int[] TAKES = {1, 1, 1, 0, 0, 2, 2, 1, 3};
    private static final int[] MAKES = {1, 1, 1, 1, 1, 1, 1, 0, 1};
    private static final int[] YARN = {10, 11, 4, 13, 9, 12, 14, 15, 18};

    public static void main(String[] args) {
        newNeedle();
        eachWordTakesMakesAndNeedsYarn();
        flatTurnsRoundDoesNot();
        timesAreAsManyAsTold();
        tillGoesOnWhileMoreAreLeft();
        tillIsLookedAtAheadOfEachTime();
        shortBound();
        wideBound();
        mostStitchesOfARow();
        idleBound();
        idleEndsAtOnce();
        pastBound();
        overleftBound();
        filledBound();
        filledIsLookedAtFirst();
        ofSeveralTheLeast();
        theFirstThatComes();
        idleAndPastHappenToTheTillItself();
        nothingIsDoneByAHitch();
        noWhyAtFirst();
        shortestAndLongestChain();
        shorterChainBehindALongerOne();
        timesInWhy();
        whyOfEachHitch();
        whyBounds();
        onlyHitchesInTruthAreKept();
        whatIsWorkedKeepsWhy();
        modeBounds();
        castBounds();
        castIsStuck();
        castIsOfSideRight();
        workBounds();
        runBounds();
        runOfOneAndOfAll();
        hitchEndsARun();
        runIsFilled();
        ripBounds();
        ripBackToEach();
        Due.end("WorkBoundsTest");
    }

    /** THE NEEDLE has none at first; FLAT, SIDE RIGHT, no WORKED ROWS. */
    private static void newNeedle() {
        KnitReader x = Due.knit(0, "k", "yo");
        Due.due("STITCHES", x.status(2), 0);
        Due.due("SIDE", x.status(3), 0);
        Due.due("MODE", x.status(4), 0);
        Due.due("WORKED ROWS", x.status(1), 0);
        Due.due("k on none", x.work(0), Due.STUCK);
        Due.due("yo on none", x.work(1), 1);
    }

    private static void eachWordTakesMakesAndNeedsYarn() {
        for (int i = 0; i < WORDS.length; i++) {
            KnitReader x = Due.knit(0, WORDS[i], WORDS[i] + ",yo");
            Due.due(WORDS[i] + " makes", x.would(0, TAKES[i], 0), MAKES[i]);
            Due.due(WORDS[i] + " is one", x.would(0, TAKES[i], 1), 1);
            Due.due(WORDS[i] + " needs", x.would(0, TAKES[i], 2), YARN[i]);
            Due.due("of fewer", x.hitch(0, Math.max(0, TAKES[i] - 1)), TAKES[i] == 0 ? -1 : 1);
            Due.due("of more", x.hitch(0, TAKES[i] + 1), 6);
            Due.due("only with so many", x.fits(0), 1L << TAKES[i]);
            if (TAKES[i] > 0) {
                x.cast(TAKES[i]);
            }
            x.work(1);
            Due.due(WORDS[i] + " TOOK", x.workedOf(0, 2), TAKES[i]);
            Due.due(WORDS[i] + " MADE", x.workedOf(0, 3), MAKES[i] + 1);
            Due.due("what is behind it", x.stitch(0, 1, 1), TAKES[i]);
            Due.due("what is behind it", x.stitch(0, 1, 2), MAKES[i]);
        }
    }

    /** FLAT: the last made is the first then, and the SIDE changes; ROUND: neither. */
    private static void flatTurnsRoundDoesNot() {
        for (int mode = 0; mode < 2; mode++) {
            KnitReader x = Due.knit(3, "k3");
            x.mode(mode);
            for (int rows = 1; rows <= 5; rows++) {
                x.work(0);
                boolean turned = mode == 0 && rows % 2 == 1;
                Due.due("SIDE behind " + rows, x.status(3), turned ? 1 : 0);
                Due.due("the first behind " + rows, x.origin(0), turned ? 4 : 1);
                Due.due("the last behind " + rows, x.origin(2), turned ? 1 : 4);
            }
        }
    }

    /** ( ) n: its PARTS n times. */
    private static void timesAreAsManyAsTold() {
        for (int n = 1; n <= 60; n++) {
            KnitReader x = Due.knit(0, "(k)" + n, "p" + n);
            Due.due("(k)" + n + " on as many", x.would(0, n, 1), n);
            Due.due("(k)" + n + " on fewer", x.hitch(0, n - 1), 1);
            Due.due("(k)" + n + " on more", x.hitch(0, Math.min(60, n + 1)), n == 60 ? -1 : 6);
            Due.due("p" + n + " on as many", x.would(1, n, 2), 11 * n);
            Due.due("p" + n + " on fewer", x.hitch(1, n - 1), 1);
        }
    }

    /** As long as more than n are left. */
    private static void tillGoesOnWhileMoreAreLeft() {
        for (int n = 0; n <= 60; n += n < 3 || n > 56 ? 1 : 6) {
            KnitReader x = Due.knit(0, "<p>" + n + (n == 0 ? "" : ",k" + n));
            for (int left = 0; left <= 60; left++) {
                int due = left < n ? -1 : 11 * (left - n) + 10 * n;
                Due.due("till " + n + " of " + left, x.would(0, left, 2), due);
                Due.due("HITCH of till " + n + " of " + left, x.hitch(0, left), left < n ? 5 : -1);
            }
        }
    }

    /** Ahead of each time: what a time leaves may be fewer. */
    private static void tillIsLookedAtAheadOfEachTime() {
        KnitReader x = Due.knit(0, "<k3>4,p4", "<k,(yo,bo)2>2,p2");
        for (int left = 0; left <= 30; left++) {
            Due.due("by 3 till 4, of " + left, x.hitch(0, left), left < 4 ? 5 : left % 3 == 1 ? -1 : 5);
            Due.due("by 3 till 2, of " + left, x.hitch(1, left), left < 2 ? 5 : left % 3 == 2 ? -1 : 5);
        }
        Due.due("of 4 not once", x.would(0, 4, 2), 44);
        Due.due("of 7 once", x.would(0, 7, 2), 74);
    }

    /** 1 SHORT: a STITCH TAKES more than are left. */
    private static void shortBound() {
        for (int i = 0; i < WORDS.length; i++) {
            for (int left = 0; left < 4; left++) {
                KnitReader x = Due.knit(0, (left < 3 ? "k4," : "") + "yo,sl3," + WORDS[i]);
                int needle = left + (left < 3 ? 7 : 3);
                int hitch = x.hitch(0, needle);
                Due.due(WORDS[i] + " on " + left, hitch, TAKES[i] > left ? 1 : TAKES[i] < left ? 6 : -1);
            }
        }
    }

    /** 2 WIDE: a 61st would be made. */
    private static void wideBound() {
        for (int i = 0; i < WORDS.length; i++) {
            KnitReader x = Due.knit(0, "yo59," + WORDS[i], "yo60," + WORDS[i]);
            Due.due(WORDS[i] + " as the 60th", x.would(0, TAKES[i], 0), 59 + MAKES[i]);
            Due.due(WORDS[i] + " as the 61st", x.hitch(1, TAKES[i]), MAKES[i] == 0 ? -1 : 2);
        }
        KnitReader y = Due.knit(60, "yo,<k>0", "<k>1,yo,k", "<bo>0,yo60", "<bo>0,yo60,m");
        Due.due("of 60", y.hitch(0, 60), 2);
        Due.due("of 59", y.would(0, 59, 0), 60);
        Due.due("the last one", y.hitch(1, 60), 2);
        Due.due("60 anew", y.work(2), 60);
        Due.due("61 anew", y.work(3), Due.STUCK);
    }

    /** A ROW has 120 STITCHES at most, 60 that TAKE and 60 that MAKE: 3 LONG can't come. */
    private static void mostStitchesOfARow() {
        KnitReader x = Due.knit(60, "(bo,yo)60", "yo60,bo60", "(yo,bo)60,yo");
        Due.due("120 STITCHES", x.would(0, 60, 1), 120);
        Due.due("120 STITCHES", x.would(1, 60, 1), 120);
        Due.due("a 121st is WIDE", x.hitch(2, 60), 2);
        Due.due("work(0)", x.work(0), 60);
        Due.due("workedOf(0, 1)", x.workedOf(0, 1), 120);
        Due.due("stitch(0, 119, 0)", x.stitch(0, 119, 0), 7);
        Due.due("stitch(0, 120, 0)", x.stitch(0, 120, 0), Due.BAD);
    }

    /** 4 IDLE: a time of a < > behind which as many are left as ahead of it. */
    private static void idleBound() {
        KnitReader x = Due.knit(0, "<yo>1,k", "<yo,k>1,k", "<<k>3>1,k", "(<m,yo>0)1", "<k,<p>1>0", "<(<k>4)60>3,k3");
        Due.due("none less left", x.hitch(0, 2), 4);
        Due.due("no time", x.hitch(0, 1), -1);
        Due.due("one less left", x.hitch(1, 2), -1);
        Due.due("the second time of the outer one", x.hitch(2, 9), 4);
        Due.due("the first time of the outer one", x.hitch(2, 3), 4);
        Due.due("in a ( )", x.hitch(3, 1), 4);
        Due.due("no time in a ( )", x.hitch(3, 0), -1);
        Due.due("a time that leaves one, then one that takes it: PAST in it", x.hitch(4, 3), 5);
        Due.due("60 times without a STITCH", x.hitch(5, 9), 4);
    }

    /** The time that leaves as many is the last, whatever would come of another. */
    private static void idleEndsAtOnce() {
        KnitReader x = Due.knit(2, "<yo20>0", "<yo60,m>0", "<k,<yo>1>0");
        x.work(0);
        Due.whyIs(x, "40 not WIDE yet", 11, 0, 20, 4, 0, 2);
        x.work(1);
        Due.whyIs(x, "WIDE in the time", 11, 1, 60, 10, 0, 1, 2, 6, 2);
        Due.due("till 1 has no time: PAST later", x.work(2), Due.STUCK);
        Due.whyIs(x, "PAST in the second time", 11, 2, 2, 10, 0, 2, 5, 3, 0);
    }

    /** 5 PAST: behind a < > fewer than n are left. */
    private static void pastBound() {
        KnitReader x = Due.knit(0, "<k2>3,k3", "<k>60,k60", "<sd>2,k2", "<k>0");
        Due.due("3 ahead", x.hitch(0, 3), -1);
        Due.due("2 ahead: no time, and fewer", x.hitch(0, 2), 5);
        Due.due("0 ahead", x.hitch(0, 0), 5);
        Due.due("4 ahead: 2 left", x.hitch(0, 4), 5);
        Due.due("5 ahead: 3 left", x.hitch(0, 5), -1);
        Due.due("till 60, of 60", x.hitch(1, 60), -1);
        Due.due("till 60, of 59", x.hitch(1, 59), 5);
        Due.due("3 TAKEN of 3", x.hitch(2, 3), 5);
        Due.due("3 TAKEN of 5", x.hitch(2, 5), -1);
        Due.due("fewer than 0 can't be", x.hitch(3, 0), -1);
    }

    /** 6 OVERLEFT: at the end of the ROW some are left. */
    private static void overleftBound() {
        KnitReader x = Due.knit(0, "k59", "<k>0", "<k>1", "yo");
        Due.due("none left", x.hitch(0, 59), -1);
        Due.due("one left", x.hitch(0, 60), 6);
        Due.due("till 0", x.hitch(1, 60), -1);
        Due.due("till 1", x.hitch(2, 60), 6);
        Due.due("none ahead", x.hitch(3, 0), -1);
        Due.due("all left", x.hitch(3, 60), 6);
    }

    /** 7 FILLED: it would be the 51st WORKED ROW. */
    private static void filledBound() {
        KnitReader x = Due.knit(2, "k2");
        for (int worked = 1; worked <= 50; worked++) {
            Due.due("the WORKED ROW " + worked, x.work(0), 2);
            Due.due("status(1)", x.status(1), worked);
        }
        Due.refused(x, "the 51st", 0, x.work(0), Due.STUCK);
        Due.due("status(1)", x.status(1), 50);
        Due.whyIs(x, "FILLED", 11, 0, 0, 7, 0, 2);
        Due.due("workedOf(49, 1)", x.workedOf(49, 1), 2);
        Due.due("workedOf(50, 1)", x.workedOf(50, 1), Due.BAD);
        x.rip(1);
        Due.due("room for one", x.work(0), 2);
        Due.due("and no more", x.work(0), Due.STUCK);
    }

    private static void filledIsLookedAtFirst() {
        KnitReader x = Due.knit(5, "k5", "k6", "k4", "<yo>0", "<k>6", "yo60,yo");
        x.run(0, 0, 20);
        x.run(0, 0, 20);
        x.run(0, 0, 10);
        for (int line = 0; line < 6; line++) {
            Due.due("work(" + line + ")", x.work(line), Due.STUCK);
            Due.whyIs(x, "FILLED of ROW " + line, 11, line, 0, 7, 0, 5);
        }
        Due.refused(x, "BAD is no HITCH", 0, x.work(6), Due.BAD);
        KnitReader y = Due.knit(1, "bo", "<k>0", "k");
        y.work(0);
        for (int i = 0; i < 49; i++) {
            y.work(1);
        }
        y.work(2);
        Due.whyIs(y, "FILLED with nothing on the needle", 11, 2, 0, 7, 0, 0);
    }

    /** Of several at once the least number. */
    private static void ofSeveralTheLeast() {
        KnitReader x = Due.knit(1, "yo60,kt", "yo60,k", "yo60,k2", "yo60,sd");
        Due.due("SHORT and WIDE", x.hitch(0, 1), 1);
        Due.due("WIDE alone", x.hitch(1, 1), 2);
        Due.due("WIDE at the first of two", x.hitch(2, 1), 2);
        Due.due("SHORT and WIDE", x.hitch(3, 1), 1);
        x.work(0);
        Due.whyIs(x, "SHORT and WIDE", 11, 0, 60, 1, 5, 1);
    }

    private static void theFirstThatComes() {
        KnitReader x = Due.knit(0, "k,<yo>0,kt9", "<k>9,kt", "kt,<k>9", "k,yo60,kt", "<k>1,kt,k");
        Due.due("IDLE ahead of SHORT", x.hitch(0, 2), 4);
        Due.due("PAST ahead of SHORT", x.hitch(1, 1), 5);
        Due.due("SHORT ahead of PAST", x.hitch(2, 1), 1);
        Due.due("WIDE ahead of SHORT", x.hitch(3, 1), 2);
        Due.due("SHORT ahead of OVERLEFT", x.hitch(4, 5), 1);
    }

    /** These two happen to the < > itself, not in it. */
    private static void idleAndPastHappenToTheTillItself() {
        KnitReader x = Due.knit(6, "k,<yo>0", "k,<k2>2,k2", "(k,<yo>0)2", "<k,<k2>2>0", "(k2)1,<k,<k2>1>0");
        int[][] due = {
            {11, 0, 2, 4, 2, 5}, {11, 1, 5, 5, 2, 1}, {11, 2, 2, 10, 0, 1, 4, 3, 5}, {11, 3, 5, 10, 0, 1, 5, 3, 1},
            {11, 4, 6, 10, 6, 2, 5, 9, 0}};
        for (int line = 0; line < due.length; line++) {
            Due.due("work(" + line + ")", x.work(line), Due.STUCK);
            Due.whyIs(x, "IDLE or PAST of ROW " + line, due[line]);
        }
    }

    /** Nothing is done then, but WHY. */
    private static void nothingIsDoneByAHitch() {
        String[] rows = {"k4,kt", "<k>0,yo60", "<yo>0", "<k2>1,k", "k3"};
        KnitReader x = Due.knit(5, rows[0], rows[1], rows[2], rows[3], rows[4], "k5", "k3,kt");
        x.work(5);
        x.work(6);
        for (int line = 0; line < 5; line++) {
            Due.refused(x, "work of " + rows[line], line, x.work(line), Due.STUCK);
            Due.due("WORKED ROWS", x.status(1), 2);
            Due.due("STITCHES", x.status(2), 4);
            Due.due("SIDE", x.status(3), 0);
            Due.due("YARN", x.yarn(), 92);
            Due.due("origin(0)", x.origin(0), 3);
        }
    }

    private static void noWhyAtFirst() {
        KnitReader x = Due.knit(1, "k");
        Due.due("causes()", x.causes(), 0);
        Due.refused(x, "why(0, 0)", 0, x.why(0, 0), Due.BAD);
        x.work(0);
        Due.due("causes() behind a WORKED ROW", x.causes(), 0);
        Due.refused(x, "why(0, 0)", 1, x.why(0, 0), Due.BAD);
    }

    private static void shortestAndLongestChain() {
        KnitReader x = Due.knit(3, "k4", "k,<(<(<k,sd>0)1>0)1>0", "k3");
        x.work(0);
        Due.whyIs(x, "two links", 11, 0, 3, 1, 0, 0);
        x.run(0, 0, 1);
        Due.whyIs(x, "three links", 12, 1, 0, 11, 0, 3, 1, 0, 0);
        x.work(1);
        Due.whyIs(x, "seven links", 11, 1, 2, 10, 2, 1, 10, 3, 1, 10, 4, 1, 10, 5, 1, 10, 6, 1, 1, 9, 1);
        x.run(1, 2, 20);
        Due.whyIs(x, "eight links", 12, 1, 1, 11, 1, 2, 10, 2, 1, 10, 3, 1, 10, 4, 1, 10, 5, 1, 10, 6, 1, 1, 9, 1);
        for (int what = 0; what < 3; what++) {
            Due.refused(x, "why(8, " + what + ")", what, x.why(8, what), Due.BAD);
        }
    }

    private static void shorterChainBehindALongerOne() {
        KnitReader x = Due.knit(3, "k,<(<(<k,sd>0)1>0)1>0", "k4");
        x.run(0, 0, 1);
        x.work(1);
        Due.whyIs(x, "two links", 11, 1, 3, 1, 0, 0);
        for (int i = 2; i < 9; i++) {
            Due.refused(x, "why(" + i + ", 0)", i - 2, x.why(i, 0), Due.BAD);
        }
    }

    /** Which time (1 on). */
    private static void timesInWhy() {
        for (int n = 0; n < 60; n++) {
            KnitReader x = Due.knit(n, "(k)60", "<sl,(bo,yo)1,sd>0", "k");
            x.work(0);
            Due.whyIs(x, "(k)60 on " + n, 11, 0, n, 10, 0, n + 1, 1, 1, 0);
        }
        KnitReader y = Due.knit(59, "<k,k>0", "(k9,(k)3)60", "<(k)4>1,k");
        y.work(0);
        Due.whyIs(y, "the 30th time", 11, 0, 59, 10, 0, 30, 1, 3, 0);
        y.work(1);
        Due.whyIs(y, "the 5th, in it the first ones", 11, 1, 59, 10, 0, 5, 10, 4, 3, 1, 5, 0);
    }

    /** Its number, the place in the text (of the PART; of OVERLEFT the text's size; of FILLED 0), how many were left. */
    private static void whyOfEachHitch() {
        KnitReader x = Due.knit(6, "k2,(p,kt3)1", "k2,(p,yo60)1", "k2,(p,<m>0)1", "k2,(p,<k2>2,p)1", "k2,(p)1");
        int[][] due = {
            {11, 0, 4, 10, 3, 1, 1, 6, 1}, {11, 1, 60, 10, 3, 1, 2, 6, 3}, {11, 2, 4, 10, 3, 1, 4, 6, 3},
            {11, 3, 5, 10, 3, 1, 5, 6, 1}, {11, 4, 3, 6, 7, 3}};
        for (int line = 0; line < due.length; line++) {
            Due.due("work(" + line + ")", x.work(line), Due.STUCK);
            Due.whyIs(x, "HITCH of ROW " + line, due[line]);
        }
    }

    private static void whyBounds() {
        KnitReader x = Due.knit(3, "k4");
        x.work(0);
        Due.due("why(1, 2)", x.why(1, 2), 0);
        int refused = 0;
        int[] wrong = {-1, 2, 3, 7, 8, Integer.MAX_VALUE, Integer.MIN_VALUE};
        for (int i : wrong) {
            Due.refused(x, "why(" + i + ", 0)", refused++, x.why(i, 0), Due.BAD);
        }
        int[] whats = {-1, 3, 4, Integer.MAX_VALUE, Integer.MIN_VALUE};
        for (int what : whats) {
            Due.refused(x, "why(0, " + what + ")", refused++, x.why(0, what), Due.BAD);
            Due.refused(x, "why(1, " + what + ")", refused++, x.why(1, what), Due.BAD);
        }
    }

    /** The latest that was refused (by STUCK) in truth (what HITCHES in days() isn't kept). */
    private static void onlyHitchesInTruthAreKept() {
        KnitReader x = Due.knit(3, "k4", "k5");
        x.would(0, 3, 0);
        x.hitch(0, 3);
        x.fits(0);
        x.least();
        x.times(0, 1);
        Due.due("nothing in thought", x.causes(), 0);
        Due.due("days(9)", x.days(9), 0);
        Due.due("nothing in days", x.causes(), 0);
        x.cast(3);
        x.back();
        x.work(2);
        Due.due("nothing of what is no HITCH", x.causes(), 0);
        x.work(1);
        x.days(9);
        x.fits(0);
        x.drop();
        x.drop();
        x.drop();
        x.days(1);
        Due.whyIs(x, "the latest in truth", 11, 1, 3, 1, 0, 0);
        Due.due("STUCK", x.status(15), 5);
    }

    private static void whatIsWorkedKeepsWhy() {
        KnitReader x = Due.knit(3, "k3", "k2");
        x.image();
        x.work(1);
        x.work(0);
        x.rip(1);
        x.run(0, 0, 2);
        x.mode(5);
        x.image();
        x.back();
        x.rip(2);
        x.mode(1);
        Due.whyIs(x, "as it was", 11, 1, 2, 6, 2, 1);
    }

    private static void modeBounds() {
        KnitReader x = Due.knit(2, "k2");
        Due.due("mode(1)", x.mode(1), 0);
        Due.due("mode(1) again", x.mode(1), 1);
        Due.due("mode(0)", x.mode(0), 1);
        int[] wrong = {-1, 2, Integer.MAX_VALUE, Integer.MIN_VALUE};
        for (int i = 0; i < wrong.length; i++) {
            Due.refused(x, "mode(" + wrong[i] + ")", i, x.mode(wrong[i]), Due.BAD);
        }
        x.work(0);
        Due.refused(x, "mode(1) with a WORKED ROW", 0, x.mode(1), Due.STUCK);
        Due.refused(x, "mode(0), as it is", 1, x.mode(0), Due.STUCK);
        Due.refused(x, "BAD ahead of STUCK", 4, x.mode(2), Due.BAD);
        Due.due("status(4)", x.status(4), 0);
        x.rip(1);
        Due.due("mode(1) with none again", x.mode(1), 0);
    }

    private static void castBounds() {
        for (int n = 1; n <= 60; n++) {
            KnitReader x = new KnitReader();
            Due.due("cast(" + n + ")", x.cast(n), n);
            Due.due("status(2)", x.status(2), n);
        }
        KnitReader x = new KnitReader();
        int[] wrong = {0, -1, 61, 62, Integer.MAX_VALUE, Integer.MIN_VALUE};
        for (int i = 0; i < wrong.length; i++) {
            Due.refused(x, "cast(" + wrong[i] + ")", i, x.cast(wrong[i]), Due.BAD);
        }
        Due.due("status(2)", x.status(2), 0);
    }

    /** STUCK: the needle has STITCHES, or there are WORKED ROWS. */
    private static void castIsStuck() {
        KnitReader x = Due.knit(1, "bo", "<k>0");
        Due.refused(x, "with one STITCH", 0, x.cast(1), Due.STUCK);
        Due.refused(x, "BAD ahead of it", 0, x.cast(0), Due.BAD);
        x.work(0);
        Due.due("nothing on the needle", x.status(2), 0);
        Due.refused(x, "with a WORKED ROW", 1, x.cast(1), Due.STUCK);
        Due.refused(x, "BAD ahead of it", 1, x.cast(61), Due.BAD);
        x.rip(1);
        Due.refused(x, "with one STITCH again", 2, x.cast(1), Due.STUCK);
        KnitReader y = Due.knit(0, "yo2");
        y.work(0);
        Due.refused(y, "with both", 0, y.cast(1), Due.STUCK);
        y.rip(1);
        Due.due("with neither", y.cast(60), 60);
    }

    private static void castIsOfSideRight() {
        KnitReader x = Due.knit(0, "yo2", "k2");
        x.work(0);
        Due.due("SIDE behind one", x.status(3), 1);
        x.rip(1);
        x.cast(2);
        Due.due("SIDE behind CAST", x.status(3), 0);
        x.work(1);
        Due.due("SIDE of the first", x.workedOf(0, 0), 0);
    }

    private static void workBounds() {
        KnitReader x = Due.knit(1, "k", "p");
        int[] wrong = {-1, 2, 3, 19, 20, Integer.MAX_VALUE, Integer.MIN_VALUE};
        for (int i = 0; i < wrong.length; i++) {
            Due.refused(x, "work(" + wrong[i] + ")", i, x.work(wrong[i]), Due.BAD);
        }
        Due.due("work(0)", x.work(0), 1);
        Due.due("work(1)", x.work(1), 1);
        Due.due("no WHY of BAD", x.causes(), 0);
        KnitReader y = new KnitReader();
        Due.refused(y, "work(0) without ROWS", 0, y.work(0), Due.BAD);
    }

    /** From one to another one (not lesser), n times (1 to 20). */
    private static void runBounds() {
        KnitReader x = Due.knit(1, "k", "p", "sl");
        int[][] wrong = {{-1, 0, 1}, {0, 3, 1}, {3, 3, 1}, {1, 0, 1}, {2, 1, 1}, {2, 0, 1}, {0, 0, 0}, {0, 0, -1}, {0, 0, 21},
            {0, Integer.MAX_VALUE, 1}, {Integer.MIN_VALUE, 0, 1}, {Integer.MIN_VALUE, Integer.MAX_VALUE, 1},
            {0, 0, Integer.MAX_VALUE}, {0, 0, Integer.MIN_VALUE}, {-2, -1, 1}};
        for (int i = 0; i < wrong.length; i++) {
            int[] c = wrong[i];
            Due.refused(x, "run(" + c[0] + ", " + c[1] + ", " + c[2] + ")", i, x.run(c[0], c[1], c[2]), Due.BAD);
        }
        Due.due("nothing was WORKED", x.status(1), 0);
        Due.due("run(1, 1, 1)", x.run(1, 1, 1), 1);
        Due.due("run(1, 2, 1)", x.run(1, 2, 1), 2);
        Due.due("run(0, 2, 1)", x.run(0, 2, 1), 3);
        Due.due("run(0, 0, 20)", x.run(0, 0, 20), 20);
        Due.due("status(1)", x.status(1), 26);
    }

    private static void runOfOneAndOfAll() {
        KnitReader x = new KnitReader();
        for (int i = 0; i < 20; i++) {
            Due.tell(x, "k" + (i % 2 == 0 ? "" : "1"));
        }
        x.cast(1);
        Due.due("run(19, 19, 1)", x.run(19, 19, 1), 1);
        Due.due("run(0, 19, 2)", x.run(0, 19, 2), 40);
        for (int i = 0; i < 40; i++) {
            Due.due("ROW of " + i, x.workedOf(i + 1, 5), i % 20);
        }
        Due.due("run(11, 19, 1) up to the 50th", x.run(11, 19, 1), 9);
        Due.due("status(1)", x.status(1), 50);
    }

    /** A HITCH ends it (what was WORKED ahead of it stays). */
    private static void hitchEndsARun() {
        KnitReader x = Due.knit(3, "k3", "<k>2,bo,k", "k9", "k2");
        Due.refused(x, "run(0, 3, 20)", 0, x.run(0, 3, 20), Due.STUCK);
        Due.whyIs(x, "in the third ROW", 12, 1, 2, 11, 2, 2, 1, 0, 0);
        Due.due("two stay", x.status(1), 2);
        Due.due("the needle", x.status(2), 2);
        Due.due("SIDE", x.status(3), 0);
        Due.refused(x, "a HITCH at once", 1, x.run(0, 0, 20), Due.STUCK);
        Due.due("two stay", x.status(1), 2);
        Due.whyIs(x, "at once", 12, 1, 0, 11, 0, 2, 1, 0, 0);
        KnitReader y = Due.knit(20, "kt,<k>0", "<k>0");
        Due.refused(y, "run(0, 1, 20)", 0, y.run(0, 1, 20), Due.STUCK);
        Due.whyIs(y, "the 20th time", 12, 20, 0, 11, 0, 0, 1, 0, 1);
        Due.due("38 stay", y.status(1), 38);
    }

    private static void runIsFilled() {
        KnitReader x = Due.knit(1, "k", "p", "sl");
        x.run(0, 2, 16);
        Due.due("two up to the 50th", x.run(0, 1, 1), 2);
        x.rip(2);
        Due.refused(x, "three", 0, x.run(0, 2, 1), Due.STUCK);
        Due.whyIs(x, "FILLED in the third ROW", 12, 1, 2, 11, 2, 0, 7, 0, 1);
        Due.due("two of them stay", x.status(1), 50);
        Due.due("ROW of the last", x.workedOf(49, 5), 1);
        Due.refused(x, "one more", 1, x.run(1, 2, 1), Due.STUCK);
        Due.whyIs(x, "FILLED at once", 12, 1, 1, 11, 1, 0, 7, 0, 1);
    }

    private static void ripBounds() {
        KnitReader x = Due.knit(1, "k");
        Due.refused(x, "rip(1) of none", 0, x.rip(1), Due.BAD);
        Due.refused(x, "rip(0) of none", 1, x.rip(0), Due.BAD);
        x.run(0, 0, 5);
        int[] wrong = {0, -1, 6, 7, 50, Integer.MAX_VALUE, Integer.MIN_VALUE};
        for (int i = 0; i < wrong.length; i++) {
            Due.refused(x, "rip(" + wrong[i] + ")", 2 + i, x.rip(wrong[i]), Due.BAD);
        }
        Due.due("status(1)", x.status(1), 5);
        Due.due("rip(1)", x.rip(1), 4);
        Due.due("rip(4)", x.rip(4), 0);
        Due.refused(x, "rip(1) of none again", 9, x.rip(1), Due.BAD);
        x.run(0, 0, 20);
        x.run(0, 0, 20);
        x.run(0, 0, 10);
        Due.due("rip(50)", x.rip(50), 0);
        Due.due("the needle", x.status(2), 1);
    }

    /** The needle and SIDE are as they were ahead of them. */
    private static void ripBackToEach() {
        for (int mode = 0; mode < 2; mode++) {
            for (int by = 1; by <= 5; by++) {
                KnitReader x = Due.knit(6, "kt,<k>0", "<bo>0", "yo3", "k,m,k2", "<k>0");
                x.mode(mode);
                int[] needle = {6, 5, 0, 3, 4, 4};
                Due.due("run(0, 4, 1)", x.run(0, 4, 1), 5);
                Due.due("rip(" + by + ")", x.rip(by), 5 - by);
                Due.due("the needle ahead of " + by, x.status(2), needle[5 - by]);
                Due.due("SIDE ahead of " + by, x.status(3), mode == 0 ? (5 - by) % 2 : 0);
                Due.due("what was ripped is none", x.workedOf(5 - by, 0), Due.BAD);
            }
        }
    }
}
