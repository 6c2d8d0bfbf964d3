/** DocumentTest's last part: promises 27 to 44, what is asked of WORKED ROWS, draws, what is kept, status. */
final class DocAskPromises {
    private DocAskPromises() {
    }

    static void go() {
        workedOf();
        stitch();
        chart();
        shorthand();
        unit();
        mirrored();
        even();
        roots();
        origin();
        yarn();
        many();
        differ();
        judge();
        days();
        seed();
        image();
        back();
        status();
    }

    private static void bad(KnitReader x, String call, long got) {
        Due.due(call, got, Due.BAD);
        Due.due("status(12) behind " + call, x.status(12) > 0 ? 1 : 0, 1);
    }

    private static void workedOf() {
        Doc.says("## Promise 27: workedOf `int workedOf(int worked, int what)`: Of a WORKED ROW (0 the first): SIDE (what 0), how many STITCHES "
            + "(1), how many it TOOK (2), MADE (3), YARN (4), the number of the ROW it was (5). BAD.");
        KnitReader x = Due.knit(6, "k4,kt", "bo,sd,yo,<m>1,sl", "<p>0");
        Due.due("work(0)", x.work(0), 5);
        Due.due("work(1)", x.work(1), 3);
        Due.due("work(2)", x.work(2), 3);
        int[][] due = {{0, 5, 6, 5, 52, 0}, {1, 4, 5, 3, 50, 1}, {0, 3, 3, 3, 33, 2}};
        for (int worked = 0; worked < 3; worked++) {
            for (int what = 0; what < 6; what++) {
                Due.due("workedOf(" + worked + ", " + what + ")", x.workedOf(worked, what), due[worked][what]);
            }
        }
        bad(x, "workedOf(-1, 0)", x.workedOf(-1, 0));
        bad(x, "workedOf(3, 0)", x.workedOf(3, 0));
        bad(x, "workedOf(0, -1)", x.workedOf(0, -1));
        bad(x, "workedOf(0, 6)", x.workedOf(0, 6));
        Due.due("BAD", x.status(12), 4);
    }

    private static void stitch() {
        Doc.says("## Promise 28: stitch `int stitch(int worked, int i, int what)`: The i-th STITCH of a WORKED ROW: KIND (what 0), the first "
            + "place on the needle that it TOOK (1; also where it TOOK none: that of the next one), the first place of what it MADE (2; "
            + "likewise). BAD.");
        String row = "yo,sd,bo,m,kt,k,bo,yo";
        int[][] due = {{7, 0, 0}, {12, 0, 1}, {11, 3, 2}, {8, 4, 2}, {9, 4, 3}, {4, 6, 4}, {11, 7, 5}, {7, 8, 5}};
        KnitReader x = DocAsked.wrong(8, row);
        KnitReader y = Due.knit(8, row);
        y.work(0);
        for (int i = 0; i < due.length; i++) {
            for (int what = 0; what < 3; what++) {
                Due.due("stitch(1, " + i + ", " + what + ") of a WRONG one", x.stitch(1, i, what), due[i][what]);
                Due.due("stitch(0, " + i + ", " + what + ") of a RIGHT one", y.stitch(0, i, what), due[i][what]);
            }
        }
        bad(x, "stitch(2, 0, 0)", x.stitch(2, 0, 0));
        bad(x, "stitch(-1, 0, 0)", x.stitch(-1, 0, 0));
        bad(x, "stitch(1, 8, 0)", x.stitch(1, 8, 0));
        bad(x, "stitch(1, -1, 0)", x.stitch(1, -1, 0));
        bad(x, "stitch(1, 0, 3)", x.stitch(1, 0, 3));
        bad(x, "stitch(1, 0, -1)", x.stitch(1, 0, -1));
        Due.due("BAD", x.status(12), 6);
    }

    private static void chart() {
        Doc.says("## Promise 29: chart `int chart(int worked, int column)`: THE CHART: the KIND in a column of a WORKED ROW; NONE: none such. "
            + "BAD. (NONE isn't refused.)");
        KnitReader x = DocAsked.wrong(4, "p,kt,yo,k");
        int[] due = {5, 7, 10, 4, -1};
        for (int column = 0; column < 5; column++) {
            Due.due("chart(1, " + column + ")", x.chart(1, column), due[column]);
            Due.due("chart(0, " + column + ")", x.chart(0, column), column < 4 ? 4 : -1);
        }
        Due.due("chart(1, -1)", x.chart(1, -1), -1);
        Due.due("chart(0, -1)", x.chart(0, -1), -1);
        Due.due("NONE isn't refused", x.status(12), 0);
        bad(x, "chart(2, 0)", x.chart(2, 0));
        bad(x, "chart(-1, 0)", x.chart(-1, 0));
        Due.due("BAD", x.status(12), 2);
    }

    private static void shorthand() {
        Doc.says("## Promise 30: shorthand `int shorthand(int worked, int i)`: Byte i of SHORTHAND of a WORKED ROW; NONE: none such. BAD. (NONE "
            + "isn't refused.)");
        KnitReader x = DocAsked.wrong(15, "sl12,sk,p");
        String due = "sl12,sk,p";
        for (int i = 0; i < due.length(); i++) {
            Due.due("shorthand(1, " + i + ")", x.shorthand(1, i), due.charAt(i));
        }
        Due.due("behind it", x.shorthand(1, due.length()), -1);
        Due.due("ahead of it", x.shorthand(1, -1), -1);
        Due.due("NONE isn't refused", x.status(12), 0);
        bad(x, "shorthand(2, 0)", x.shorthand(2, 0));
        bad(x, "shorthand(-1, 0)", x.shorthand(-1, 0));
        Due.due("BAD", x.status(12), 2);
    }

    private static void unit() {
        Doc.says("## Promise 31: unit `int unit(int worked)`: UNIT of a WORKED ROW; 0: it has no STITCHES. BAD.");
        KnitReader x = DocAsked.wrong(12, "(k2,p)4");
        Due.due("unit(0)", x.unit(0), 1);
        Due.due("unit(1)", x.unit(1), 3);
        Due.due("of no STITCHES", DocAsked.wrong(0, "<p>0").unit(1), 0);
        bad(x, "unit(2)", x.unit(2));
        bad(x, "unit(-1)", x.unit(-1));
        Due.due("BAD", x.status(12), 2);
    }

    private static void mirrored() {
        Doc.says("## Promise 32: mirrored `int mirrored(int worked, int i)`: MIRRORED: the KIND of the i-th; NONE: none such. BAD. (NONE isn't "
            + "refused.)");
        KnitReader x = DocAsked.wrong(6, "p,kt,yo,sd");
        int[] due = {12, 7, 10, 5, -1};
        for (int i = 0; i < due.length; i++) {
            Due.due("mirrored(1, " + i + ")", x.mirrored(1, i), due[i]);
        }
        Due.due("mirrored(1, -1)", x.mirrored(1, -1), -1);
        Due.due("NONE isn't refused", x.status(12), 0);
        bad(x, "mirrored(2, 0)", x.mirrored(2, 0));
        bad(x, "mirrored(-1, 0)", x.mirrored(-1, 0));
        Due.due("BAD", x.status(12), 2);
    }

    private static void even() {
        Doc.says("## Promise 33: even `int even(int worked)`: Whether a WORKED ROW is as it is MIRRORED (1, 0). BAD.");
        String[] rows = {"k,p,k,k,p,k", "kt,k2,sk", "kt,k2,kt", "k,p,k,p,k,p", "sk,yo,m,yo,kt,sl2", "sk,k2,kt", "sd,sd", "sd,k,kt"};
        int[] due = {1, 1, 0, 0, 0, 1, 1, 0};
        for (int i = 0; i < rows.length; i++) {
            Due.due("even of " + rows[i], DocAsked.wrong(6, rows[i]).even(1), due[i]);
        }
        KnitReader x = DocAsked.wrong(0, "<p>0");
        Due.due("of no STITCHES", x.even(1), 1);
        bad(x, "even(2)", x.even(2));
        bad(x, "even(-1)", x.even(-1));
        Due.due("BAD", x.status(12), 2);
    }

    private static void roots() {
        Doc.says("## Promise 34: roots `long roots(int worked, int j)`: ROOTS of the j-th made of a WORKED ROW. Refused: the number less "
            + "9,000,000,000,000,000,000. BAD.");
        KnitReader x = DocAsked.wrong(60, "<k>3,sd");
        Due.due("roots(1, 56)", x.roots(1, 56), 1L << 56);
        Due.due("roots(1, 57)", x.roots(1, 57), 7L << 57);
        long bad = -9_000_000_000_000_000_092L;
        Due.due("roots(1, 58)", x.roots(1, 58), bad);
        Due.due("roots(1, -1)", x.roots(1, -1), bad);
        Due.due("roots(2, 0)", x.roots(2, 0), bad);
        Due.due("roots(-1, 0)", x.roots(-1, 0), bad);
        Due.due("BAD", x.status(12), 4);
    }

    private static void origin() {
        Doc.says("## Promise 35: origin `long origin(int j)`: Places (bits) on the needle ahead of the first WORKED ROW of which the j-th on "
            + "the needle now (to be worked) is made, by ROOTS of ROOTS. Refused likewise. BAD: also no j-th.");
        KnitReader x = Due.knit(6, "kt,k,yo,sk,k", "sk,<p>0", "k,<k>0");
        x.work(0);
        // made of 0 and 1; 2; none; 3 and 4; 5: the last is the first now
        long[] once = {32, 24, 0, 4, 3};
        for (int j = 0; j < 5; j++) {
            Due.due("origin(" + j + ")", x.origin(j), once[j]);
        }
        x.work(1);
        // made of 5, 3 and 4; none; 2; 0 and 1: the last is the first again
        long[] twice = {3, 4, 0, 56};
        for (int j = 0; j < 4; j++) {
            Due.due("origin(" + j + ")", x.origin(j), twice[j]);
        }
        Due.due("origin(4)", x.origin(4), -92 - Due.FAR);
        Due.due("origin(-1)", x.origin(-1), -92 - Due.FAR);
        Due.due("BAD", x.status(12), 2);
        KnitReader y = Due.knit(6, "kt,k,yo,sk,k", "sk,<p>0");
        y.mode(1);
        y.run(0, 1, 1);
        // made of 0 to 2; none; 3 and 4; 5
        long[] round = {7, 0, 24, 32};
        for (int j = 0; j < 4; j++) {
            Due.due("origin(" + j + ") in ROUND", y.origin(j), round[j]);
        }
    }

    private static void yarn() {
        Doc.says("## Promise 36: yarn `long yarn()`: YARN of all WORKED ROWS.");
        KnitReader x = Due.knit(11, "k,p,sl,yo,m,kt,sk,bo,sd", "<k>0");
        Due.due("of none", x.yarn(), 0);
        x.work(0);
        Due.due("of one", x.yarn(), 106);
        x.work(1);
        Due.due("of two", x.yarn(), 186);
        x.rip(1);
        Due.due("of one again", x.yarn(), 106);
    }

    private static void many() {
        Doc.says("## Promise 37: many `int many(int kind)`: STITCHES of a KIND (0 to 12) or of one under it in all WORKED ROWS. BAD.");
        KnitReader x = Due.knit(20, "k,p,sl,yo,m,kt,sk,bo,sd,<k>0", "sd2,<p>0");
        x.run(0, 1, 1);
        int[] due = {18 + 13, 12 + 11, 2, 4 + 2, 10, 1 + 11, 1, 1, 1, 1, 2 + 2, 1, 1 + 2};
        for (int kind = 0; kind <= 12; kind++) {
            Due.due("many(" + kind + ")", x.many(kind), due[kind]);
        }
        bad(x, "many(-1)", x.many(-1));
        bad(x, "many(13)", x.many(13));
        Due.due("BAD", x.status(12), 2);
    }

    private static void differ() {
        Doc.says("## Promise 38: differ `int differ(int worked, int other)`: The first column at which THE CHARTS of two WORKED ROWS differ "
            + "(where one ends ahead of the other: there); NONE. BAD. (NONE isn't refused.)");
        KnitReader x = Due.knit(4, "k4", "p3,k", "k3,p", "p4,m", "<k>0");
        x.run(0, 4, 1);
        // from the right side: k4; p k3; k3 p; m k4; k5
        int[][] due = {{-1, 0, 3, 0, 4}, {0, -1, 0, 0, 0}, {3, 0, -1, 0, 3}, {0, 0, 0, -1, 0}, {4, 0, 3, 0, -1}};
        for (int worked = 0; worked < 5; worked++) {
            for (int other = 0; other < 5; other++) {
                Due.due("differ(" + worked + ", " + other + ")", x.differ(worked, other), due[worked][other]);
            }
        }
        Due.due("NONE isn't refused", x.status(12), 0);
        bad(x, "differ(5, 0)", x.differ(5, 0));
        bad(x, "differ(0, 5)", x.differ(0, 5));
        bad(x, "differ(-1, 0)", x.differ(-1, 0));
        bad(x, "differ(0, -1)", x.differ(0, -1));
        Due.due("BAD", x.status(12), 4);
    }

    private static void judge() {
        Doc.says("## Promise 39: judge `int judge(int worked, int s, int n)`: A told WORKED ROW: the first of the first n elements (0 to 40) of "
            + "the ROW OF NUMBERS in SHELF s that isn't the KIND of the STITCH there; n, if it has more; NONE. BAD worked, SHELF, n; "
            + "OTHER; NOTHING; BAD: fewer elements. (NONE isn't refused.)");
        KnitReader x = DocAsked.wrong(4, "p,kt,k");
        x.row(0, 0, 5);
        int[] told = {5, 9, 4, 4, 0};
        for (int i = 0; i < 5; i++) {
            x.set(0, i, told[i]);
        }
        int[] due = {0, 1, 2, -1, 3, 3};
        for (int n = 0; n <= 5; n++) {
            Due.due("judge(1, 0, " + n + ")", x.judge(1, 0, n), due[n]);
        }
        x.set(0, 0, 4);
        Due.due("another at 0", x.judge(1, 0, 3), 0);
        x.set(0, 0, 5);
        x.set(0, 1, 10);
        Due.due("another at 1", x.judge(1, 0, 3), 1);
        Due.due("but not of the first 1", x.judge(1, 0, 1), 1);
        Due.due("NONE isn't refused", x.status(12), 0);
        x.show(1, 0, 0);
        int[][] no = {{2, 0, 0, Due.BAD}, {-1, 2, 0, Due.BAD}, {1, 8, 0, Due.BAD}, {1, -1, 0, Due.BAD}, {1, 1, 41, Due.BAD},
            {1, 2, -1, Due.BAD}, {1, 1, 40, Due.OTHER}, {1, 2, 40, Due.NOTHING}, {1, 0, 6, Due.BAD}, {1, 0, 40, Due.BAD}};
        for (int[] c : no) {
            String call = "judge(" + c[0] + ", " + c[1] + ", " + c[2] + ")";
            Due.refused(x, call, x.status(-80 - c[3]), x.judge(c[0], c[1], c[2]), c[3]);
        }
    }

    private static void days() {
        Doc.says("## Promise 40: days `int days(int n)`: DAYS by draws, n (1 to 60): how many ROWS were WORKED. BAD; STUCK: no ROWS.");
        KnitReader x = Due.knit(3, "k3", "k4");
        Due.refused(x, "days(0)", 0, x.days(0), Due.BAD);
        Due.refused(x, "days(61)", 1, x.days(61), Due.BAD);
        // DRAWS: 16838, 38526, 10113, 50283
        Due.due("days(3): 0, 0, 1", x.days(3), 2);
        Due.due("WORKED ROWS", x.status(1), 1);
        Due.due("SEED", x.status(6), 662824084);
        KnitReader y = new KnitReader();
        Due.refused(y, "no ROWS", 0, y.days(60), Due.STUCK);
        Due.due("SEED", y.status(6), 1);
        KnitReader z = Due.knit(3, "k3");
        Due.due("days(60) of one ROW", z.days(60), 55);
    }

    private static void seed() {
        Doc.says("## Promise 41: seed `int seed(int v)`: SEED becomes v: the one ahead.");
        KnitReader x = Due.knit(3, "k3", "p3");
        Due.due("seed(5)", x.seed(5), 1);
        Due.due("seed(min)", x.seed(Integer.MIN_VALUE), 5);
        Due.due("seed(1103527590)", x.seed(1103527590), Integer.MIN_VALUE);
        x.days(2);
        Due.due("as behind the first DRAW: 38526", x.workedOf(0, 5), 0);
        Due.due("and 10113", x.workedOf(1, 5), 1);
        Due.due("seed(0)", x.seed(0), 662824084);
    }

    private static void image() {
        Doc.says("## Promise 42: image `int image()`: All is kept, but THE TAPE, SHELVES, WHY and REFUSALS: 1.");
        KnitReader x = Due.knit(3, "k3", "k4");
        x.mode(1);
        x.work(0);
        x.feed('p');
        x.row(0, 2, 1);
        x.work(1);
        Due.due("image()", x.image(), 1);
        for (int what = 0; what < 8; what++) {
            int[] due = {2, 1, 3, 0, 1, 1, 1, 1};
            Due.due("nothing is changed: " + what, x.status(what), due[what]);
        }
        Due.due("image() anew", x.image(), 1);
    }

    private static void back() {
        Doc.says("## Promise 43: back `int back()`: All is again as it was kept: 1. STUCK: nothing was.");
        KnitReader x = Due.knit(3, "k3", "k4", "kt,k");
        Due.refused(x, "back()", 0, x.back(), Due.STUCK);
        x.work(0);
        x.seed(33);
        x.image();
        for (int time = 0; time < 2; time++) {
            x.work(2);
            x.days(30);
            x.rip(x.status(1));
            x.mode(1);
            x.work(2);
            x.work(2);
            x.drop();
            x.drop();
            Due.tell(x, "yo");
            x.feed('k');
            x.row(time, 0, 1);
            x.work(0);
            x.work(1);
            x.run(1, 1, 1);
            Due.due("back()", x.back(), 1);
            int[] due = {3, 1, 3, 1, 0, 1, 33, time + 1};
            for (int what = 0; what < due.length; what++) {
                Due.due("status(" + what + ")", x.status(what), due[what]);
            }
            Due.due("ROW 1", x.text(1, 1), '4');
            Due.due("ROW 2", x.text(2, 1), 't');
            int[] worked = {0, 3, 3, 3, 30, 0};
            for (int what = 0; what < worked.length; what++) {
                Due.due("workedOf(0, " + what + ")", x.workedOf(0, what), worked[what]);
            }
            Due.due("origin(0)", x.origin(0), 4);
            Due.whyIs(x, "WHY", 12, 1, 1, 11, 1, 1, 6, 2, 2);
            Due.due("STUCK", x.status(15), 4 * time + 5);
            x.wipe();
        }
    }

    private static void status() {
        Doc.says("## Promise 44: status `int status(int what)`: ROWS (0), WORKED ROWS (1), STITCHES on the needle (2), SIDE (3), MODE (4), THE "
            + "TAPE's size (5), SEED (6), SHELVES that hold something (7); 12 to 16: REFUSALS -92 to -96. NONE another what.");
        KnitReader x = Due.knit(6, "k6", "k4,kt", "k");
        x.mode(1);
        x.run(0, 1, 1);
        x.seed(-3);
        Due.feed(x, "k,p,");
        x.row(1, 0, 0);
        x.row(2, 4, 3);
        x.show(3, 0, 0);
        x.rip(3);
        x.set(3, 0, 0);
        x.set(3, 0, 0);
        x.set(0, 0, 0);
        x.set(0, 0, 0);
        x.set(4, 0, 0);
        x.mode(0);
        x.cast(1);
        x.work(2);
        x.back();
        for (int i = 0; i < 251; i++) {
            x.feed('k');
        }
        int[] due = {3, 2, 5, 0, 1, 250, -3, 3, -1, -1, -1, -1, 1, 2, 3, 4, 5, -1, -1};
        for (int what = 0; what < due.length; what++) {
            Due.due("status(" + what + ")", x.status(what), due[what]);
        }
        Due.due("status(-1)", x.status(-1), -1);
        Due.due("status(-92)", x.status(-92), -1);
        Due.due("and isn't refused", x.status(12), 1);
    }
}
