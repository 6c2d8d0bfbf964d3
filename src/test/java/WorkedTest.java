/** Promises 27 to 39: what is asked of WORKED ROWS. */
public final class WorkedTest {
    public static void main(String[] args) {
        workedOf();
        stitches();
        charts();
        shorthands();
        units();
        mirrors();
        roots();
        origins();
        yarnAndMany();
        differs();
        judged();
        wrongAsking();
        Due.end("WorkedTest");
    }

    private static void workedOf() {
        KnitReader x = Due.knit(12, "k,p,sl,yo,m,kt,sk,bo,sd,k", "(k)3,bo6", "<k>0", "yo2,k3");
        x.run(0, 3, 1);
        int[][] told = {{0, 10, 12, 9, 10 + 11 + 4 + 13 + 9 + 12 + 14 + 15 + 18 + 10, 0}, {1, 9, 9, 3, 120, 1}, {0, 3, 3, 3, 30, 2},
            {1, 5, 3, 5, 56, 3}};
        for (int worked = 0; worked < told.length; worked++) {
            for (int what = 0; what < 6; what++) {
                Due.due("workedOf(" + worked + ", " + what + ")", x.workedOf(worked, what), told[worked][what]);
            }
        }
        Due.refused(x, "workedOf(4, 0)", 0, x.workedOf(4, 0), Due.BAD);
        Due.refused(x, "workedOf(-1, 0)", 1, x.workedOf(-1, 0), Due.BAD);
        Due.refused(x, "workedOf(0, -1)", 2, x.workedOf(0, -1), Due.BAD);
        Due.refused(x, "workedOf(0, 6)", 3, x.workedOf(0, 6), Due.BAD);
        x.rip(1);
        Due.refused(x, "workedOf(3, 0) of what was ripped", 4, x.workedOf(3, 0), Due.BAD);
    }

    private static void stitches() {
        KnitReader x = Due.knit(6, "yo,bo,sd,m,kt,yo");
        Due.due("work(0)", x.work(0), 5);
        int[][] told = {{7, 0, 0}, {11, 0, 1}, {12, 1, 1}, {8, 4, 2}, {9, 4, 3}, {7, 6, 4}};
        for (int i = 0; i < told.length; i++) {
            for (int what = 0; what < 3; what++) {
                Due.due("stitch(0, " + i + ", " + what + ")", x.stitch(0, i, what), told[i][what]);
            }
        }
        int[][] bad = {{-1, 0, 0}, {1, 0, 0}, {0, -1, 0}, {0, 6, 0}, {0, 0, -1}, {0, 0, 3}};
        for (int i = 0; i < bad.length; i++) {
            Due.refused(x, "stitch, bad " + i, i, x.stitch(bad[i][0], bad[i][1], bad[i][2]), Due.BAD);
        }
    }

    private static void chartIs(KnitReader x, int worked, int... kinds) {
        for (int column = 0; column < kinds.length; column++) {
            Due.due("chart(" + worked + ", " + column + ")", x.chart(worked, column), kinds[column]);
        }
        Due.due("chart behind it", x.chart(worked, kinds.length), -1);
        Due.due("chart ahead of it", x.chart(worked, -1), -1);
        Due.due("chart far behind", x.chart(worked, Integer.MAX_VALUE), -1);
        Due.due("chart far ahead", x.chart(worked, Integer.MIN_VALUE), -1);
    }

    private static void charts() {
        String all = "k,p,sl,yo,m,kt,sk,bo,sd";
        KnitReader x = Due.knit(11, all);
        Due.due("work(0)", x.work(0), 8);
        chartIs(x, 0, 4, 5, 6, 7, 8, 9, 10, 11, 12);
        KnitReader y = Due.knit(11, "k11", all, "<bo>0", "<k>0");
        y.run(0, 3, 1);
        chartIs(y, 1, 12, 11, 9, 10, 8, 7, 6, 4, 5);
        chartIs(y, 3);
        KnitReader z = Due.knit(11, "k11", all);
        z.mode(1);
        z.run(0, 1, 1);
        chartIs(z, 1, 4, 5, 6, 7, 8, 9, 10, 11, 12);
        Due.due("refusals", x.status(12) + y.status(12) + z.status(12), 0);
    }

    private static void shorthandIs(String told, int n, String shorthand) {
        KnitReader x = Due.knit(n, told);
        x.work(0);
        for (int i = 0; i < shorthand.length(); i++) {
            Due.due("shorthand of " + told + " at " + i, x.shorthand(0, i), shorthand.charAt(i));
        }
        Due.due("shorthand behind " + told, x.shorthand(0, shorthand.length()), -1);
        Due.due("shorthand ahead of " + told, x.shorthand(0, -1), -1);
        Due.due("shorthand far behind " + told, x.shorthand(0, Integer.MAX_VALUE), -1);
        if (shorthand.length() > 0 && shorthand.length() < 200) {
            KnitReader y = Due.knit(n, shorthand);
            Due.due("shorthand worked again", y.work(0), x.status(2));
        }
    }

    private static void shorthands() {
        shorthandIs("k", 1, "k");
        shorthandIs("k,k1,(k)2", 4, "k4");
        shorthandIs("<k>2,kt", 14, "k12,kt");
        shorthandIs("k9,p10,sl11,k19", 49, "k9,p10,sl11,k19");
        shorthandIs("(k,k2)15,bo8,yo9,m6", 53, "k45,bo8,yo9,m6");
        shorthandIs("yo38,bo27", 27, "yo38,bo27");
        shorthandIs("k,p,sl,yo,m,kt,sk,bo,sd", 11, "k,p,sl,yo,m,kt,sk,bo,sd");
        shorthandIs("(k2,p)3,p9,k,(sl)10", 29, "k2,p,k2,p,k2,p10,k,sl10");
        shorthandIs("<k>0", 60, "k60");
        shorthandIs("<k>0", 0, "");
        shorthandIs("(bo,yo)60", 60, "bo,yo,".repeat(60).substring(0, 359));
        shorthandIs("(bo2,yo2)30", 60, "bo2,yo2,".repeat(30).substring(0, 239));
    }

    private static void unitIs(String told, int n, int unit) {
        KnitReader x = Due.knit(n, told);
        x.work(0);
        Due.due("unit of " + told, x.unit(0), unit);
    }

    private static void units() {
        unitIs("k", 1, 1);
        unitIs("k60", 60, 1);
        unitIs("(k2,p2)5", 20, 4);
        unitIs("(k2,p2)5,k", 21, 21);
        unitIs("(k,p)2,k", 5, 5);
        unitIs("(k,p,k,p)3", 12, 2);
        unitIs("(k,p,p)4,(k,p,p)2", 18, 3);
        unitIs("k3,p,k3", 7, 7);
        unitIs("(kt,yo)6", 12, 2);
        unitIs("(sd,yo,yo)3,sk,yo,yo", 11, 12);
        unitIs("k2,p,k2,p,k2,p", 9, 3);
        unitIs("<k>0", 0, 0);
    }

    private static void mirroredIs(String told, int n, int even, int... kinds) {
        KnitReader x = Due.knit(n, "<k>0", told);
        x.run(0, 1, 1);
        for (int i = 0; i < kinds.length; i++) {
            Due.due("mirrored of " + told + " at " + i, x.mirrored(1, i), kinds[i]);
        }
        Due.due("mirrored behind " + told, x.mirrored(1, kinds.length), -1);
        Due.due("mirrored ahead of " + told, x.mirrored(1, -1), -1);
        Due.due("mirrored far ahead of " + told, x.mirrored(1, Integer.MIN_VALUE), -1);
        Due.due("even of " + told, x.even(1), even);
    }

    private static void mirrors() {
        mirroredIs("k,p,sl,yo,m,kt,sk,bo,sd", 11, 0, 12, 11, 9, 10, 8, 7, 6, 5, 4);
        mirroredIs("kt,k,sk", 5, 1, 9, 4, 10);
        mirroredIs("kt,k,kt", 5, 0, 10, 4, 10);
        mirroredIs("k,p,k", 3, 1, 4, 5, 4);
        mirroredIs("k,p", 2, 0, 5, 4);
        mirroredIs("kt", 2, 0, 10);
        mirroredIs("sd", 3, 1, 12);
        mirroredIs("sk,(yo,kt)1", 4, 1, 10, 7, 9);
        mirroredIs("<k>0", 0, 1);
        mirroredIs("yo,kt,sk,yo", 4, 1, 7, 9, 10, 7);
    }

    private static void roots() {
        KnitReader x = Due.knit(8, "yo,bo,sd,m,kt,k,sl", "<bo>0");
        x.mode(1);
        x.run(0, 1, 1);
        long[] due = {0, 14, 0, 48, 64, 128};
        x.rip(1);
        for (int j = 0; j < due.length; j++) {
            Due.due("roots(0, " + j + ")", x.roots(0, j), due[j]);
        }
        Due.due("roots(0, 6)", x.roots(0, 6), -92 - Due.FAR);
        Due.due("roots(0, -1)", x.roots(0, -1), -92 - Due.FAR);
        Due.due("roots(1, 0)", x.roots(1, 0), -92 - Due.FAR);
        Due.due("roots(-1, 0)", x.roots(-1, 0), -92 - Due.FAR);
        Due.due("refused", x.status(12), 4);
        KnitReader y = Due.knit(60, "k60", "<k>3,sd");
        y.run(0, 1, 1);
        Due.due("roots(0, 59)", y.roots(0, 59), 1L << 59);
        Due.due("roots(1, 57)", y.roots(1, 57), 7L << 57);
        Due.due("roots(1, 0): by the order to be worked", y.roots(1, 0), 1);
    }

    private static void originIs(KnitReader x, long... due) {
        for (int j = 0; j < due.length; j++) {
            Due.due("origin(" + j + ")", x.origin(j), due[j]);
        }
    }

    private static void origins() {
        KnitReader x = Due.knit(7, "k,kt,yo,k,sd", "p,sk,k,sl", "yo,k3,kt");
        Due.due("origin(6) on nothing WORKED", x.origin(6), 64);
        x.work(0);
        // made: 0; 1 2; none; 3; 4 5 6: turned about
        originIs(x, 112, 8, 0, 6, 1);
        x.work(1);
        // made: 4 5 6; 3 and none; 1 2; 0: turned about
        originIs(x, 1, 6, 8, 112);
        Due.due("work(2) can't be", x.work(2), Due.STUCK);
        x.rip(2);
        originIs(x, 1, 2, 4, 8, 16, 32, 64);
        Due.due("origin(7)", x.origin(7), -92 - Due.FAR);
        Due.due("origin(-1)", x.origin(-1), -92 - Due.FAR);
        Due.due("refused", x.status(12), 2);
        KnitReader y = Due.knit(7, "k,kt,yo,k,sd", "p,sk,k,sl");
        y.mode(1);
        y.run(0, 1, 1);
        originIs(y, 1, 6, 8, 112);
        Due.due("origin(4)", y.origin(4), -92 - Due.FAR);
        KnitReader z = Due.knit(0, "yo3");
        Due.due("origin(0) of an empty needle", z.origin(0), -92 - Due.FAR);
        z.work(0);
        originIs(z, 0, 0, 0);
        KnitReader w = Due.knit(60, "<k>0");
        w.run(0, 0, 3);
        Due.due("origin(0) of 60", w.origin(0), 1L << 59);
        Due.due("origin(59) of 60", w.origin(59), 1);
    }

    private static void yarnAndMany() {
        KnitReader x = Due.knit(11, "k,p,sl,yo,m,kt,sk,bo,sd", "k3,sd,yo,kt", "<sl>0");
        Due.due("yarn() of none", x.yarn(), 0);
        Due.due("many(0) of none", x.many(0), 0);
        x.run(0, 2, 1);
        Due.due("yarn()", x.yarn(), 106 + 30 + 18 + 13 + 12 + 24);
        int[] due = {21, 12, 3, 6, 4, 1, 7, 2, 1, 2, 3, 1, 2};
        for (int kind = 0; kind <= 12; kind++) {
            Due.due("many(" + kind + ")", x.many(kind), due[kind]);
        }
        Due.refused(x, "many(-1)", 0, x.many(-1), Due.BAD);
        Due.refused(x, "many(13)", 1, x.many(13), Due.BAD);
        x.rip(2);
        Due.due("yarn() behind rip", x.yarn(), 106);
        Due.due("many(12) behind rip", x.many(12), 1);
    }

    private static void differs() {
        KnitReader x = Due.knit(6, "k4,p2", "k2,p4", "p2,k4", "k6");
        x.run(0, 3, 1);
        Due.due("differ(0, 0)", x.differ(0, 0), -1);
        // charts: 0: k4 p2; 1 from the last, turned: k4 p2; 2: p2 k4; 3: p6
        Due.due("differ(0, 1)", x.differ(0, 1), -1);
        Due.due("differ(0, 2)", x.differ(0, 2), 0);
        Due.due("differ(2, 3)", x.differ(2, 3), 2);
        Due.due("differ(3, 2)", x.differ(3, 2), 2);
        KnitReader y = Due.knit(4, "k4", "k4,yo", "<k>0", "k5", "<bo>0", "<k>0", "<k>0");
        y.mode(1);
        y.run(0, 6, 1);
        Due.due("one ends ahead", y.differ(0, 1), 4);
        Due.due("the other does", y.differ(1, 0), 4);
        Due.due("both as long", y.differ(2, 3), -1);
        Due.due("none against some", y.differ(5, 4), 0);
        Due.due("none against none", y.differ(5, 6), -1);
        Due.due("NONE isn't refused", y.status(12), 0);
        Due.refused(y, "differ(7, 0)", 0, y.differ(7, 0), Due.BAD);
        Due.refused(y, "differ(0, 7)", 1, y.differ(0, 7), Due.BAD);
        Due.refused(y, "differ(-1, 0)", 2, y.differ(-1, 0), Due.BAD);
        Due.refused(y, "differ(0, -1)", 3, y.differ(0, -1), Due.BAD);
    }

    private static void judged() {
        int[] told = {4, 5, 7, 9, -1, 0};
        KnitReader y = Due.knit(4, "k,p,yo,kt", "p4");
        for (int sort = 0; sort < 4; sort++) {
            y.row(sort, sort, 6);
            for (int i = 0; i < told.length; i++) {
                y.set(sort, i, told[i]);
            }
        }
        y.work(0);
        y.work(1);
        for (int sort = 0; sort < 4; sort++) {
            for (int n = 0; n < 4; n++) {
                Due.due("judge(0, " + sort + ", " + n + ") of more", y.judge(0, sort, n), n);
            }
            Due.due("judge of as many", y.judge(0, sort, 4), -1);
            Due.due("judge of fewer STITCHES", y.judge(0, sort, 5), 4);
            Due.due("judge of fewer STITCHES", y.judge(0, sort, 6), 4);
            y.set(sort, 2, 8);
            Due.due("judge of another", y.judge(0, sort, 4), 2);
            Due.due("judge as worked, not as charted", y.judge(1, sort, 4), 0);
        }
        y.row(4, 4, 4);
        y.set(4, 0, 4);
        Due.due("booleans are 1", y.judge(0, 4, 4), 0);
        y.row(5, 3, 1);
        y.set(5, 0, 4 + (1L << 32));
        Due.due("longs are wholly read", y.judge(0, 5, 1), 0);
        y.row(5, 0, 1);
        y.set(5, 0, 4 + 256);
        Due.due("bytes keep their lowest bits", y.judge(0, 5, 1), 1);
        Due.due("NONE isn't refused", y.status(12), 0);
        y.show(6, 0, 0);
        int[][] bad = {{-1, 0, 1}, {2, 0, 1}, {0, -1, 1}, {0, 8, 1}, {0, 0, -1}, {0, 0, 41}, {0, 6, 41}, {2, 7, 0}, {0, 0, 7}, {0, 5, 2}};
        for (int i = 0; i < bad.length; i++) {
            Due.refused(y, "judge, bad " + i, i, y.judge(bad[i][0], bad[i][1], bad[i][2]), Due.BAD);
        }
        Due.refused(y, "judge by a STITCH", 0, y.judge(0, 6, 40), Due.OTHER);
        Due.refused(y, "judge by NOTHING", 0, y.judge(0, 7, 40), Due.NOTHING);
    }

    private static void wrongAsking() {
        KnitReader x = Due.knit(2, "k2");
        x.work(0);
        int[] wrong = {-1, 1, Integer.MAX_VALUE, Integer.MIN_VALUE};
        int refused = 0;
        for (int worked : wrong) {
            Due.refused(x, "chart", refused++, x.chart(worked, 0), Due.BAD);
            Due.refused(x, "shorthand", refused++, x.shorthand(worked, 0), Due.BAD);
            Due.refused(x, "unit", refused++, x.unit(worked), Due.BAD);
            Due.refused(x, "mirrored", refused++, x.mirrored(worked, 0), Due.BAD);
            Due.refused(x, "even", refused++, x.even(worked), Due.BAD);
            Due.refused(x, "BAD, though there is no column", refused++, x.chart(worked, 99), Due.BAD);
        }
    }
}
