import java.util.ArrayList;
import java.util.Collections;
import java.util.List;

/** WHAT IS ASKED of WORKED ROWS, and promises 27 to 39: a test for each sentence that names a bound. */
public final class AskBoundsTest {
    /** With two WORKED ROWS. */
    private static final int[] NO_WORKED = {-1, 2, 3, 49, 50, Integer.MAX_VALUE, Integer.MIN_VALUE};
    private static final String ALL = "k,p,sl,yo,m,kt,sk,bo,sd";

    public static void main(String[] args) {
        workedOfBounds();
        workedOfNoStitches();
        stitchBounds();
        stitchThatTookNone();
        placesOfARowThatWasLonger();
        chartColumns();
        chartOfEachSide();
        chartOfNoStitches();
        chartRefusals();
        shorthandOfRuns();
        shorthandBounds();
        unitDividesAll();
        unitIsTheLeast();
        unitOfNoStitches();
        mirroredBounds();
        evenOfOne();
        evenOfMore();
        rootsOfNone();
        rootsOfTheFarthest();
        rootsBounds();
        originOnNothingWorked();
        originOfFiftyRows();
        originBounds();
        yarnOfNoneAndMost();
        manyOfEachKind();
        differWhereOneEnds();
        differBounds();
        judgeOfNone();
        judgeOfFewerAndMore();
        judgeOfFortyAndMore();
        judgeBySorts();
        judgeRefusalsInOrder();
        rippedRowsAreNone();
        askingRefusesNothingElse();
        Due.end("AskBoundsTest");
    }

    private static KnitReader two() {
        KnitReader x = Due.knit(3, "k3", "p,kt");
        x.run(0, 1, 1);
        return x;
    }

    private static void workedOfBounds() {
        KnitReader x = two();
        int[] due = {1, 2, 3, 2, 23, 1};
        for (int what = 0; what < 6; what++) {
            Due.due("workedOf(1, " + what + ")", x.workedOf(1, what), due[what]);
        }
        int refused = 0;
        for (int worked : NO_WORKED) {
            Due.refused(x, "workedOf(" + worked + ", 0)", refused++, x.workedOf(worked, 0), Due.BAD);
        }
        int[] whats = {-1, 6, 7, Integer.MAX_VALUE, Integer.MIN_VALUE};
        for (int what : whats) {
            Due.refused(x, "workedOf(0, " + what + ")", refused++, x.workedOf(0, what), Due.BAD);
        }
    }

    private static void workedOfNoStitches() {
        KnitReader x = Due.knit(0, "<k>0");
        x.run(0, 0, 2);
        int[] due = {1, 0, 0, 0, 0, 0};
        for (int what = 0; what < 6; what++) {
            Due.due("workedOf(1, " + what + ")", x.workedOf(1, what), due[what]);
        }
    }

    private static void stitchBounds() {
        KnitReader x = two();
        Due.due("stitch(0, 2, 1)", x.stitch(0, 2, 1), 2);
        Due.due("stitch(1, 1, 0)", x.stitch(1, 1, 0), 9);
        int refused = 0;
        for (int worked : NO_WORKED) {
            Due.refused(x, "stitch(" + worked + ", 0, 0)", refused++, x.stitch(worked, 0, 0), Due.BAD);
        }
        int[] places = {-1, 3, 4, 60, 200, Integer.MAX_VALUE, Integer.MIN_VALUE};
        for (int i : places) {
            Due.refused(x, "stitch(0, " + i + ", 0)", refused++, x.stitch(0, i, 0), Due.BAD);
        }
        int[] whats = {-1, 3, 4, Integer.MAX_VALUE, Integer.MIN_VALUE};
        for (int what : whats) {
            Due.refused(x, "stitch(0, 0, " + what + ")", refused++, x.stitch(0, 0, what), Due.BAD);
        }
        Due.refused(x, "stitch(1, 2, 0)", refused, x.stitch(1, 2, 0), Due.BAD);
    }

    /** Also where it TOOK none: that of the next one; likewise what it MADE. */
    private static void stitchThatTookNone() {
        KnitReader x = Due.knit(3, "yo,m,kt,bo,yo");
        x.work(0);
        int[][] due = {{7, 0, 0}, {8, 0, 1}, {9, 0, 2}, {11, 2, 3}, {7, 3, 3}};
        for (int i = 0; i < due.length; i++) {
            for (int what = 0; what < 3; what++) {
                Due.due("stitch(0, " + i + ", " + what + ")", x.stitch(0, i, what), due[i][what]);
            }
        }
        KnitReader y = Due.knit(60, "(bo,yo)60");
        y.work(0);
        Due.due("the last OFF", y.stitch(0, 118, 1), 59);
        Due.due("what it MADE", y.stitch(0, 118, 2), 59);
        Due.due("the last OVER", y.stitch(0, 119, 1), 60);
        Due.due("what it MADE", y.stitch(0, 119, 2), 59);
    }

    /** A WORKED ROW has no STITCHES of one that was RIPPED BACK. */
    private static void placesOfARowThatWasLonger() {
        KnitReader x = Due.knit(9, "k9", "<sd>0");
        x.work(0);
        x.rip(1);
        x.work(1);
        for (int i = 3; i < 10; i++) {
            Due.due("stitch(0, " + i + ", 0)", x.stitch(0, i, 0), Due.BAD);
            Due.due("chart(0, " + i + ")", x.chart(0, i), -1);
            Due.due("mirrored(0, " + i + ")", x.mirrored(0, i), -1);
            Due.due("roots(0, " + i + ")", x.roots(0, i), -92 - Due.FAR);
            Due.due("origin(" + i + ")", x.origin(i), -92 - Due.FAR);
            Due.due("show(0, 0, " + i + ")", x.show(0, 0, i), Due.BAD);
        }
        Due.due("shorthand(0, 3)", x.shorthand(0, 3), -1);
        Due.due("unit(0)", x.unit(0), 1);
        Due.due("many(0)", x.many(0), 3);
        Due.due("yarn()", x.yarn(), 54);
    }

    private static void chartIs(KnitReader x, int worked, int... kinds) {
        for (int column = 0; column < kinds.length; column++) {
            Due.due("chart(" + worked + ", " + column + ")", x.chart(worked, column), kinds[column]);
        }
        int[] none = {-1, -2, kinds.length, kinds.length + 1, 60, 199, 200, Integer.MAX_VALUE, Integer.MIN_VALUE,
            Integer.MIN_VALUE + kinds.length};
        for (int column : none) {
            if (column < 0 || column >= kinds.length) {
                Due.due("chart(" + worked + ", " + column + ")", x.chart(worked, column), -1);
            }
        }
    }

    private static void chartColumns() {
        KnitReader x = Due.knit(3, "k,p,sl", "<k>0");
        x.run(0, 1, 1);
        chartIs(x, 0, 4, 5, 6);
        chartIs(x, 1, 5, 5, 5);
        Due.due("NONE isn't refused", x.status(12), 0);
        KnitReader y = Due.knit(60, "(bo,yo)60");
        y.run(0, 0, 2);
        Due.due("chart(0, 119)", y.chart(0, 119), 7);
        Due.due("chart(1, 119)", y.chart(1, 119), 11);
        Due.due("chart(0, 120)", y.chart(0, 120), -1);
        Due.due("chart(1, 120)", y.chart(1, 120), -1);
    }

    private static void chartOfEachSide() {
        KnitReader x = Due.knit(11, ALL);
        x.work(0);
        chartIs(x, 0, 4, 5, 6, 7, 8, 9, 10, 11, 12);
        KnitReader y = Due.knit(11, "<k>0", ALL);
        y.run(0, 1, 1);
        chartIs(y, 1, 12, 11, 9, 10, 8, 7, 6, 4, 5);
        KnitReader z = Due.knit(11, "<k>0", ALL);
        z.mode(1);
        z.run(0, 1, 1);
        chartIs(z, 1, 4, 5, 6, 7, 8, 9, 10, 11, 12);
    }

    private static void chartOfNoStitches() {
        KnitReader x = Due.knit(0, "<k>0");
        x.run(0, 0, 2);
        chartIs(x, 0);
        chartIs(x, 1);
    }

    private static void chartRefusals() {
        KnitReader x = two();
        int refused = 0;
        for (int worked : NO_WORKED) {
            Due.refused(x, "chart(" + worked + ", 0)", refused++, x.chart(worked, 0), Due.BAD);
            Due.refused(x, "chart(" + worked + ", -1)", refused++, x.chart(worked, -1), Due.BAD);
            Due.refused(x, "shorthand(" + worked + ", 0)", refused++, x.shorthand(worked, 0), Due.BAD);
            Due.refused(x, "shorthand(" + worked + ", -1)", refused++, x.shorthand(worked, -1), Due.BAD);
            Due.refused(x, "unit(" + worked + ")", refused++, x.unit(worked), Due.BAD);
            Due.refused(x, "mirrored(" + worked + ", 0)", refused++, x.mirrored(worked, 0), Due.BAD);
            Due.refused(x, "mirrored(" + worked + ", -1)", refused++, x.mirrored(worked, -1), Due.BAD);
            Due.refused(x, "even(" + worked + ")", refused++, x.even(worked), Due.BAD);
        }
    }

    private static void shorthandIs(String told, int n, String due) {
        KnitReader x = Due.knit(n, told);
        x.work(0);
        for (int i = 0; i < due.length(); i++) {
            Due.due("shorthand of " + told + " at " + i, x.shorthand(0, i), due.charAt(i));
        }
        Due.due("shorthand behind " + told, x.shorthand(0, due.length()), -1);
    }

    /** Runs of one KIND as WORD and number (no number for 1). */
    private static void shorthandOfRuns() {
        shorthandIs("k", 1, "k");
        shorthandIs("k1", 1, "k");
        shorthandIs("k,k", 2, "k2");
        shorthandIs("(p)9", 9, "p9");
        shorthandIs("p9,p", 10, "p10");
        shorthandIs("sl10,sl9", 19, "sl19");
        shorthandIs("<k>0", 60, "k60");
        shorthandIs("<bo>0,yo60", 60, "bo60,yo60");
        shorthandIs("sk,sk,sd,sk", 9, "sk2,sd,sk");
        shorthandIs(ALL, 11, ALL);
        shorthandIs("(k,p)2,p,k", 6, "k,p,k,p2,k");
        shorthandIs("<k>0", 0, "");
    }

    private static void shorthandBounds() {
        KnitReader x = Due.knit(12, "k12");
        x.work(0);
        Due.due("shorthand(0, 0)", x.shorthand(0, 0), 'k');
        Due.due("shorthand(0, 2)", x.shorthand(0, 2), '2');
        int[] none = {-1, -2, 3, 4, Integer.MAX_VALUE, Integer.MIN_VALUE};
        for (int i : none) {
            Due.due("shorthand(0, " + i + ")", x.shorthand(0, i), -1);
        }
        Due.due("NONE isn't refused", x.status(12), 0);
        KnitReader y = Due.knit(60, "(bo,yo)60");
        y.work(0);
        Due.due("the last byte of the longest", y.shorthand(0, 358), 'o');
        Due.due("behind it", y.shorthand(0, 359), -1);
    }

    private static int unitOf(String told, int n) {
        KnitReader x = Due.knit(n, told);
        x.work(0);
        return x.unit(0);
    }

    /** And n divides how many there are. */
    private static void unitDividesAll() {
        Due.due("(k,p)30", unitOf("(k,p)30", 60), 2);
        Due.due("(k,p)29,k", unitOf("(k,p)29,k", 59), 59);
        Due.due("(k2,p)3,k2", unitOf("(k2,p)3,k2", 11), 11);
        Due.due("(k2,p)3,k", unitOf("(k2,p)3,k", 10), 10);
        Due.due("(bo,yo)60", unitOf("(bo,yo)60", 60), 2);
        Due.due("(bo2,yo2)30", unitOf("(bo2,yo2)30", 60), 4);
        Due.due("half of it", unitOf("(k29,p)2", 60), 30);
    }

    private static void unitIsTheLeast() {
        Due.due("k", unitOf("k", 1), 1);
        Due.due("k2", unitOf("k2", 2), 1);
        Due.due("k60", unitOf("k60", 60), 1);
        Due.due("k,p", unitOf("k,p", 2), 2);
        Due.due("p,k", unitOf("p,k", 2), 2);
        Due.due("(p,k)2", unitOf("(p,k)2", 4), 2);
        Due.due("((k,p)2,(k,p)2)3", unitOf("((k,p)2,(k,p)2)3", 24), 2);
        Due.due("sk,sd", unitOf("sk,sd", 5), 2);
        Due.due("k59,p", unitOf("k59,p", 60), 60);
        Due.due("p,k59", unitOf("p,k59", 60), 60);
    }

    private static void unitOfNoStitches() {
        Due.due("<k>0 on none", unitOf("<k>0", 0), 0);
    }

    private static void mirroredBounds() {
        KnitReader x = Due.knit(11, ALL, "<k>0");
        x.run(0, 1, 1);
        int[] due = {12, 11, 9, 10, 8, 7, 6, 5, 4};
        for (int i = 0; i < due.length; i++) {
            Due.due("mirrored(0, " + i + ")", x.mirrored(0, i), due[i]);
        }
        int[] none = {-1, -2, 9, 10, 60, 200, Integer.MAX_VALUE, Integer.MIN_VALUE};
        for (int i : none) {
            Due.due("mirrored(0, " + i + ")", x.mirrored(0, i), -1);
        }
        Due.due("a WRONG one isn't TURNED", x.mirrored(1, 0), 4);
        KnitReader y = Due.knit(0, "<k>0");
        y.work(0);
        Due.due("of no STITCHES", y.mirrored(0, 0), -1);
        Due.due("ahead of none", y.mirrored(0, -1), -1);
        Due.due("far ahead of none", y.mirrored(0, Integer.MIN_VALUE), -1);
        Due.due("NONE isn't refused", x.status(12) + y.status(12), 0);
    }

    private static int evenOf(String told, int n) {
        KnitReader x = Due.knit(n, told);
        x.work(0);
        return x.even(0);
    }

    private static void evenOfOne() {
        String[] words = ALL.split(",");
        int[] takes = {1, 1, 1, 0, 0, 2, 2, 1, 3};
        for (int i = 0; i < words.length; i++) {
            boolean leans = words[i].equals("kt") || words[i].equals("sk");
            Due.due("even of " + words[i], evenOf(words[i], takes[i]), leans ? 0 : 1);
        }
        Due.due("of no STITCHES", evenOf("<k>0", 0), 1);
    }

    private static void evenOfMore() {
        Due.due("kt,sk", evenOf("kt,sk", 4), 1);
        Due.due("sk,kt", evenOf("sk,kt", 4), 1);
        Due.due("kt,kt", evenOf("kt,kt", 4), 0);
        Due.due("sk,sk", evenOf("sk,sk", 4), 0);
        Due.due("kt,k,sk", evenOf("kt,k,sk", 5), 1);
        Due.due("sk,k,sk", evenOf("sk,k,sk", 5), 0);
        Due.due("kt,sk,kt: the middle leans", evenOf("kt,sk,kt", 6), 0);
        Due.due("k,p", evenOf("k,p", 2), 0);
        Due.due("p,k", evenOf("p,k", 2), 0);
        Due.due("k30,p,k29", evenOf("k30,p,k29", 60), 0);
        Due.due("k29,p2,k29", evenOf("k29,p2,k29", 60), 1);
        Due.due("yo,m", evenOf("yo,m", 0), 0);
        Due.due("sd,sk: a DOUBLE is no LEFT", evenOf("kt,k,sd", 6), 0);
    }

    private static void rootsOfNone() {
        KnitReader x = Due.knit(3, "yo,k,m,bo,k,yo");
        x.work(0);
        long[] due = {0, 1, 0, 4, 0};
        for (int j = 0; j < due.length; j++) {
            Due.due("roots(0, " + j + ")", x.roots(0, j), due[j]);
        }
    }

    private static void rootsOfTheFarthest() {
        KnitReader x = Due.knit(60, "<k>0", "sd,<k>3,sd", "<k>2,sk", "bo54,bo3");
        Due.due("run(0, 3, 1)", x.run(0, 3, 1), Due.STUCK);
        Due.due("the first of 60", x.roots(0, 0), 1);
        Due.due("the last of 60", x.roots(0, 59), 1L << 59);
        Due.due("three at first", x.roots(1, 0), 7);
        Due.due("three at last", x.roots(1, 55), 7L << 57);
        Due.due("two at last", x.roots(2, 54), 3L << 54);
    }

    private static void rootsBounds() {
        KnitReader x = two();
        Due.due("roots(1, 1)", x.roots(1, 1), 6);
        int refused = 0;
        for (int worked : NO_WORKED) {
            Due.due("roots(" + worked + ", 0)", x.roots(worked, 0), -9_000_000_000_000_000_092L);
            refused++;
        }
        int[] none = {-1, 2, 3, 59, 60, 63, 64, Integer.MAX_VALUE, Integer.MIN_VALUE};
        for (int j : none) {
            Due.due("roots(1, " + j + ")", x.roots(1, j), -9_000_000_000_000_000_092L);
            refused++;
        }
        Due.due("BAD", x.status(12), refused);
        KnitReader y = Due.knit(2, "bo2");
        y.work(0);
        Due.due("of none made", y.roots(0, 0), -92 - Due.FAR);
    }

    private static void originOnNothingWorked() {
        KnitReader x = new KnitReader();
        Due.due("of an empty needle", x.origin(0), -92 - Due.FAR);
        x.cast(60);
        for (int j = 0; j < 60; j++) {
            Due.due("origin(" + j + ")", x.origin(j), 1L << j);
        }
        Due.due("origin(60)", x.origin(60), -92 - Due.FAR);
    }

    /** By ROOTS of ROOTS: 49 times two of them become one. */
    private static void originOfFiftyRows() {
        for (int mode = 0; mode < 2; mode++) {
            KnitReader x = Due.knit(51, "kt,<k>0", "<k>0");
            x.mode(mode);
            x.run(0, 0, 20);
            x.run(0, 0, 20);
            x.run(0, 0, 9);
            Due.due("two left", x.work(1), 2);
            List<Long> places = new ArrayList<>();
            for (int j = 0; j < 51; j++) {
                places.add(1L << j);
            }
            for (int row = 0; row < 50; row++) {
                if (row < 49) {
                    places.set(0, places.get(0) | places.remove(1));
                }
                if (mode == 0) {
                    Collections.reverse(places);
                }
            }
            Due.due("origin(0)", x.origin(0), places.get(0));
            Due.due("origin(1)", x.origin(1), places.get(1));
        }
        KnitReader y = Due.knit(3, "sd,yo", "kt", "k,m");
        Due.due("run(0, 2, 1)", y.run(0, 2, 1), 3);
        Due.due("what is of some", y.origin(1), 7);
        Due.due("what is of none", y.origin(0), 0);
    }

    private static void originBounds() {
        KnitReader x = two();
        Due.due("origin(1)", x.origin(1), 4);
        int[] none = {-1, 2, 3, 59, 60, 63, 64, Integer.MAX_VALUE, Integer.MIN_VALUE};
        for (int i = 0; i < none.length; i++) {
            Due.due("origin(" + none[i] + ")", x.origin(none[i]), -9_000_000_000_000_000_092L);
            Due.due("BAD", x.status(12), i + 1);
        }
    }

    private static void yarnOfNoneAndMost() {
        KnitReader x = Due.knit(60, "<bo>0,yo60");
        Due.due("none", x.yarn(), 0);
        x.run(0, 0, 20);
        x.run(0, 0, 20);
        x.run(0, 0, 10);
        Due.due("50 of 120", x.yarn(), 50 * 60 * 28);
        Due.due("one of them", x.workedOf(49, 4), 60 * 28);
        x.rip(50);
        Due.due("none again", x.yarn(), 0);
    }

    private static void manyOfEachKind() {
        KnitReader x = Due.knit(11, ALL, "<k>0");
        for (int kind = 0; kind <= 12; kind++) {
            Due.due("many(" + kind + ") of none", x.many(kind), 0);
        }
        x.work(0);
        int[] due = {9, 3, 2, 4, 1, 1, 1, 1, 1, 1, 2, 1, 1};
        for (int kind = 0; kind <= 12; kind++) {
            Due.due("many(" + kind + ")", x.many(kind), due[kind]);
        }
        int[] wrong = {-1, 13, 14, Integer.MAX_VALUE, Integer.MIN_VALUE};
        for (int i = 0; i < wrong.length; i++) {
            Due.refused(x, "many(" + wrong[i] + ")", i, x.many(wrong[i]), Due.BAD);
        }
    }

    /** Where one ends ahead of the other: there. */
    private static void differWhereOneEnds() {
        KnitReader x = Due.knit(2, "k2", "k2,yo", "k2,bo", "<bo>0", "<k>0");
        x.mode(1);
        x.run(0, 4, 1);
        Due.due("one more", x.differ(0, 1), 2);
        Due.due("one fewer", x.differ(1, 0), 2);
        Due.due("both one more", x.differ(1, 2), 2);
        Due.due("none against some", x.differ(4, 0), 0);
        Due.due("some against none", x.differ(0, 4), 0);
        Due.due("as it is", x.differ(3, 3), -1);
        Due.due("none against itself", x.differ(4, 4), -1);
        Due.due("at once", x.differ(0, 3), 0);
        KnitReader y = Due.knit(60, "<bo>0,yo59,m", "<bo>0,yo60");
        y.mode(1);
        y.run(0, 1, 1);
        Due.due("at the 120th", y.differ(0, 1), 119);
    }

    private static void differBounds() {
        KnitReader x = two();
        int refused = 0;
        for (int worked : NO_WORKED) {
            Due.refused(x, "differ(" + worked + ", 0)", refused++, x.differ(worked, 0), Due.BAD);
            Due.refused(x, "differ(1, " + worked + ")", refused++, x.differ(1, worked), Due.BAD);
            Due.refused(x, "differ(" + worked + ", " + worked + ")", refused++, x.differ(worked, worked), Due.BAD);
        }
        Due.due("differ(0, 0)", x.differ(0, 0), -1);
        Due.due("NONE isn't refused", x.status(12), refused);
    }

    private static KnitReader toJudge(String told, int n, int sort, int elements) {
        KnitReader x = Due.knit(n, told);
        x.work(0);
        x.row(0, sort, elements);
        return x;
    }

    /** n, if it has more; NONE. */
    private static void judgeOfNone() {
        Due.due("none of some", toJudge("k", 1, 2, 0).judge(0, 0, 0), 0);
        Due.due("none of none", toJudge("<k>0", 0, 2, 0).judge(0, 0, 0), -1);
        Due.due("none told of more elements", toJudge("<k>0", 0, 2, 9).judge(0, 0, 0), -1);
        Due.due("one of none", toJudge("<k>0", 0, 2, 1).judge(0, 0, 1), 0);
    }

    private static void judgeOfFewerAndMore() {
        KnitReader x = toJudge("k,p,k", 3, 0, 5);
        x.set(0, 0, 4);
        x.set(0, 1, 5);
        x.set(0, 2, 4);
        int[] due = {0, 1, 2, -1, 3, 3};
        for (int n = 0; n < due.length; n++) {
            Due.due("judge(0, 0, " + n + ")", x.judge(0, 0, n), due[n]);
        }
        x.set(0, 2, 5);
        Due.due("another at the last", x.judge(0, 0, 3), 2);
        x.set(0, 0, 5);
        Due.due("another at the first", x.judge(0, 0, 3), 0);
        x.set(0, 3, -1);
        x.set(0, 0, 4);
        x.set(0, 2, 4);
        Due.due("NONE told where there is none", x.judge(0, 0, 4), 3);
        Due.due("NONE isn't refused", x.status(12), 0);
    }

    private static void judgeOfFortyAndMore() {
        KnitReader x = toJudge("<k>0", 60, 1, 40);
        KnitReader y = toJudge("<k>0", 40, 1, 40);
        for (int i = 0; i < 40; i++) {
            x.set(0, i, 4);
            y.set(0, i, 4);
        }
        Due.due("40 of 60", x.judge(0, 0, 40), 40);
        Due.due("40 of 40", y.judge(0, 0, 40), -1);
        Due.due("39 of 40", y.judge(0, 0, 39), 39);
    }

    private static void judgeBySorts() {
        for (int sort = 0; sort < 5; sort++) {
            KnitReader x = toJudge("k", 1, sort, 1);
            Due.due("0 isn't KNIT", x.judge(0, 0, 1), 0);
            x.set(0, 0, 4);
            Due.due("4 of sort " + sort, x.judge(0, 0, 1), sort == 4 ? 0 : -1);
            x.set(0, 0, 4 + 256);
            Due.due("260 of sort " + sort, x.judge(0, 0, 1), sort == 0 ? -1 : 0);
            x.set(0, 0, 4 + (1L << 32));
            Due.due("2^32 and 4 of sort " + sort, x.judge(0, 0, 1), sort < 3 ? -1 : 0);
        }
    }

    /** BAD worked, SHELF, n; OTHER; NOTHING; BAD: fewer elements. */
    private static void judgeRefusalsInOrder() {
        KnitReader x = two();
        x.show(6, 0, 0);
        x.row(5, 2, 3);
        int bad = 0;
        for (int worked : NO_WORKED) {
            Due.refused(x, "BAD worked by a row", bad++, x.judge(worked, 5, 0), Due.BAD);
            Due.refused(x, "BAD worked by a STITCH", bad++, x.judge(worked, 6, 0), Due.BAD);
            Due.refused(x, "BAD worked by NOTHING", bad++, x.judge(worked, 0, 0), Due.BAD);
        }
        int[] shelves = {-1, 8, 9, Integer.MAX_VALUE, Integer.MIN_VALUE};
        for (int s : shelves) {
            Due.refused(x, "judge(0, " + s + ", 0)", bad++, x.judge(0, s, 0), Due.BAD);
        }
        int[] counts = {-1, 41, 42, Integer.MAX_VALUE, Integer.MIN_VALUE};
        for (int n : counts) {
            Due.refused(x, n + " by a row", bad++, x.judge(0, 5, n), Due.BAD);
            Due.refused(x, n + " by a STITCH", bad++, x.judge(0, 6, n), Due.BAD);
            Due.refused(x, n + " by NOTHING", bad++, x.judge(0, 0, n), Due.BAD);
        }
        Due.refused(x, "fewer elements", bad++, x.judge(0, 5, 4), Due.BAD);
        Due.refused(x, "fewer elements, though the first differs", bad, x.judge(0, 5, 40), Due.BAD);
        Due.refused(x, "OTHER", 0, x.judge(0, 6, 0), Due.OTHER);
        Due.refused(x, "OTHER of 40", 1, x.judge(1, 6, 40), Due.OTHER);
        Due.refused(x, "NOTHING", 0, x.judge(0, 0, 0), Due.NOTHING);
        Due.refused(x, "NOTHING of 40", 1, x.judge(1, 7, 40), Due.NOTHING);
    }

    private static void rippedRowsAreNone() {
        KnitReader x = Due.knit(2, "k2", "p2", "sl2", "k,p");
        x.run(0, 3, 1);
        x.rip(3);
        x.row(0, 2, 2);
        int refused = 0;
        for (int worked = 1; worked < 4; worked++) {
            Due.refused(x, "workedOf", refused++, x.workedOf(worked, 0), Due.BAD);
            Due.refused(x, "stitch", refused++, x.stitch(worked, 0, 0), Due.BAD);
            Due.refused(x, "chart", refused++, x.chart(worked, 0), Due.BAD);
            Due.refused(x, "shorthand", refused++, x.shorthand(worked, 0), Due.BAD);
            Due.refused(x, "unit", refused++, x.unit(worked), Due.BAD);
            Due.refused(x, "mirrored", refused++, x.mirrored(worked, 0), Due.BAD);
            Due.refused(x, "even", refused++, x.even(worked), Due.BAD);
            Due.refused(x, "differ", refused++, x.differ(0, worked), Due.BAD);
            Due.refused(x, "judge", refused++, x.judge(worked, 0, 1), Due.BAD);
            Due.refused(x, "show", refused++, x.show(0, worked, 0), Due.BAD);
            Due.due("roots", x.roots(worked, 0), -92 - Due.FAR);
            refused++;
        }
        Due.due("yarn()", x.yarn(), 20);
        Due.due("many(5)", x.many(5), 0);
    }

    private static void askingRefusesNothingElse() {
        KnitReader x = two();
        x.chart(0, 99);
        x.shorthand(0, 99);
        x.mirrored(0, 99);
        x.differ(0, 1);
        x.even(0);
        x.unit(0);
        x.yarn();
        x.many(0);
        for (int what = 12; what <= 16; what++) {
            Due.due("status(" + what + ")", x.status(what), 0);
        }
        Due.due("WORKED ROWS", x.status(1), 2);
        Due.due("STITCHES", x.status(2), 2);
        Due.due("SIDE", x.status(3), 0);
    }
}
