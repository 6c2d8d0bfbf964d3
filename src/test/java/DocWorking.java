/** DocumentTest's second part: Terms, 2. WORKING. */
final class DocWorking {
    private DocWorking() {
    }

    static void go() {
        needle();
        modes();
        sides();
        theWork();
        partsOneBehindTheOther();
        takesAndMakes();
        times();
        till();
        theFirstHitchEndsIt();
        shortHitch();
        wideHitch();
        longHitch();
        idleHitch();
        pastHitch();
        toTheTillItself();
        overleftHitch();
        filledHitch();
        whyChain();
        whyIsTheLatest();
        runs();
        casts();
        rippedBack();
    }

    private static void needle() {
        Doc.says("==== 2. WORKING ```text THE NEEDLE has STITCHES (0 to 60; none at first), the first to be worked first.");
        KnitReader x = Due.knit(0, "bo,<k>0", "yo60", "m");
        Due.due("none at first", x.status(2), 0);
        x.mode(1);
        Due.due("60 of them", x.cast(60), 60);
        Due.due("the first is worked first", x.work(0), 59);
        Due.due("so the second is now the first", x.origin(0), 2);
        KnitReader y = Due.knit(0, "yo60", "<bo>0,m", "<bo>0");
        Due.due("60 made", y.work(0), 60);
        Due.due("1 made", y.work(1), 1);
        Due.due("0 made", y.work(2), 0);
    }

    private static void modes() {
        Doc.says("MODE: FLAT (0; at first): behind a WORKED ROW they are turned about (the last made is the first then), and the SIDE "
            + "changes; ROUND (1): neither.");
        KnitReader x = Due.knit(3, "k2,p", "<sl>0");
        Due.due("FLAT at first", x.status(4), 0);
        x.work(0);
        Due.due("the last made is the first", x.origin(0), 4);
        Due.due("the SIDE changes", x.status(3), 1);
        x.work(1);
        Due.due("turned about again", x.origin(0), 1);
        Due.due("the SIDE changes again", x.status(3), 0);
        KnitReader y = Due.knit(3, "k2,p");
        y.mode(1);
        Due.due("ROUND", y.status(4), 1);
        y.work(0);
        Due.due("not turned about", y.origin(0), 1);
        Due.due("the SIDE is as it was", y.status(3), 0);
    }

    private static void sides() {
        Doc.says("SIDE: RIGHT (0; at first), WRONG (1).");
        KnitReader x = Due.knit(1, "k");
        Due.due("RIGHT at first", x.status(3), 0);
        x.work(0);
        Due.due("WRONG", x.status(3), 1);
    }

    private static void theWork() {
        Doc.says("THE WORK: WORKED ROWS (50 at most), each with its SIDE, and its STITCHES in the order worked.");
        KnitReader x = Due.knit(2, "k,p");
        for (int row = 0; row < 50; row++) {
            Due.due("work as " + row, x.work(0), 2);
        }
        Due.due("a 51st", x.work(0), Due.STUCK);
        for (int row = 0; row < 50; row++) {
            Due.due("SIDE of " + row, x.workedOf(row, 0), row % 2);
            Due.due("the first STITCH of " + row, x.stitch(row, 0, 0), 4);
            Due.due("the second STITCH of " + row, x.stitch(row, 1, 0), 5);
        }
    }

    private static void kindsAre(KnitReader x, int worked, int... kinds) {
        Due.due("STITCHES of " + worked, x.workedOf(worked, 1), kinds.length);
        for (int i = 0; i < kinds.length; i++) {
            Due.due("STITCH " + i + " of " + worked, x.stitch(worked, i, 0), kinds[i]);
        }
    }

    private static void partsOneBehindTheOther() {
        Doc.says("To WORK a ROW: PARTS one behind the other.");
        KnitReader x = Due.knit(7, "p,k2,(sl,p)1,<k>1,yo,m");
        Due.due("work(0)", x.work(0), Due.STUCK);
        KnitReader y = Due.knit(7, "p,k2,(sl,p)1,<k>1,yo,sl,m");
        Due.due("work(0)", y.work(0), 9);
        kindsAre(y, 0, 5, 4, 4, 6, 5, 4, 7, 6, 8);
    }

    private static void takesAndMakes() {
        Doc.says("A STITCH TAKES the next ones of the needle, and MAKES its own on the other needle.");
        KnitReader x = Due.knit(6, "kt,yo,sd,k");
        Due.due("work(0)", x.work(0), 4);
        Due.due("the first two", x.roots(0, 0), 3);
        Due.due("none", x.roots(0, 1), 0);
        Due.due("the next three", x.roots(0, 2), 4 + 8 + 16);
        Due.due("the next one", x.roots(0, 3), 32);
        KnitReader y = Due.knit(2, "<yo,k>0");
        Due.due("what is made isn't TAKEN in the same ROW", y.work(0), 4);
    }

    private static void times() {
        Doc.says("( ) n: its PARTS n times.");
        KnitReader x = Due.knit(9, "(k,(p)2)3");
        Due.due("work(0)", x.work(0), 9);
        kindsAre(x, 0, 4, 5, 5, 4, 5, 5, 4, 5, 5);
    }

    private static void till() {
        Doc.says("< > n: its PARTS again and again, as long as more than n are left (ahead of each time).");
        KnitReader x = Due.knit(7, "<k,p>3,sl3");
        Due.due("work(0)", x.work(0), 7);
        kindsAre(x, 0, 4, 5, 4, 5, 6, 6, 6);
        Due.due("3 left: not once", x.would(0, 3, 2), 12);
        Due.due("4 left: once, and fewer are left", x.hitch(0, 4), 5);
        Due.due("5 left: once", x.would(0, 5, 1), 5);
    }

    private static void theFirstHitchEndsIt() {
        Doc.says("HITCHES, the first that comes ends it, of several at once the least number (nothing is done then, but WHY):");
        KnitReader x = Due.knit(3, "k,<yo>0,<k2>1,kt", "yo60,sd,k", "yo60,k,sd", "k2,sl");
        Due.due("IDLE comes ahead of PAST", x.hitch(0, 3), 4);
        Due.due("SHORT and WIDE at once", x.hitch(1, 2), 1);
        Due.due("WIDE ahead of SHORT", x.hitch(2, 2), 2);
        x.work(3);
        Due.due("work(0)", x.work(0), Due.STUCK);
        Due.due("nothing is WORKED", x.status(1), 1);
        Due.due("nothing is TAKEN", x.status(2), 3);
        Due.due("nothing is turned", x.status(3), 1);
        Due.due("no YARN", x.yarn(), 24);
        Due.due("but WHY", x.causes(), 2);
    }

    /** Of the ROW 0, with so many ahead of it, and with one more or fewer. */
    private static void hitchIs(String row, int n, int number, int place, int left, int made) {
        KnitReader x = Due.knit(n, row);
        Due.due("hitch of " + row + " on " + n, x.hitch(0, n), number);
        Due.due("work of " + row + " on " + n, x.work(0), Due.STUCK);
        int last = x.causes() - 1;
        Due.due("HITCH of " + row + " on " + n, x.why(last, 0), number);
        Due.due("its place", x.why(last, 1), place);
        Due.due("how many were left", x.why(last, 2), left);
        Due.due("how many were worked", x.why(0, 2), made);
    }

    private static void shortHitch() {
        Doc.says("1 SHORT: a STITCH TAKES more than are left.");
        hitchIs("k", 0, 1, 0, 0, 0);
        hitchIs("k2,kt", 3, 1, 3, 1, 2);
        hitchIs("k2,sd", 4, 1, 3, 2, 2);
        hitchIs("k9", 8, 1, 0, 0, 8);
        Due.due("as many as are left", Due.knit(5, "k2,sd").hitch(0, 5), -1);
        Due.due("none of none", Due.knit(0, "yo,m").hitch(0, 0), -1);
    }

    private static void wideHitch() {
        Doc.says("2 WIDE: a 61st would be made.");
        hitchIs("yo60,m", 0, 2, 5, 0, 60);
        hitchIs("k59,yo,k", 60, 2, 7, 1, 60);
        Due.due("a 60th", Due.knit(0, "yo59,m").hitch(0, 0), -1);
        Due.due("OFF makes none", Due.knit(0, "yo60,bo9").hitch(0, 9), -1);
    }

    /** Each STITCH TAKES one of 60 or MAKES one of 60: no ROW has more than 120. */
    private static void longHitch() {
        Doc.says("3 LONG: a 201st STITCH would be worked in the ROW.");
        KnitReader x = Due.knit(60, "bo60,yo60", "(bo,yo)60,m");
        Due.due("120 STITCHES", x.would(0, 60, 1), 120);
        Due.due("more of them are WIDE", x.hitch(1, 60), 2);
    }

    private static void idleHitch() {
        Doc.says("4 IDLE: a time of a < > behind which as many are left as ahead of it.");
        hitchIs("k,<yo,m>0", 3, 4, 2, 2, 3);
        hitchIs("<k,<yo>1>0", 3, 4, 3, 2, 2);
        hitchIs("<<k>2>1,k", 2, 4, 0, 2, 0);
        Due.due("one fewer", Due.knit(0, "<yo,k>0").hitch(0, 3), -1);
        Due.due("no time of it", Due.knit(0, "<yo>0").hitch(0, 0), -1);
    }

    private static void pastHitch() {
        Doc.says("5 PAST: behind a < > fewer than n are left.");
        hitchIs("k,<p3>2,k2", 5, 5, 2, 1, 4);
        hitchIs("k,<p>5,k5", 5, 5, 2, 4, 1);
        Due.due("n are left", Due.knit(0, "k,<p3>2,k2").hitch(0, 6), -1);
        Due.due("n are ahead of it", Due.knit(0, "k,<p>5,k5").hitch(0, 6), -1);
    }

    private static void toTheTillItself() {
        Doc.says("(These two happen to the < > itself, not in it.)");
        KnitReader x = Due.knit(5, "k,<m>0", "k,<p3>2", "(k,<m>0)2", "<k,<p3>2>0", "k,<p,kt3>0");
        x.work(0);
        Due.whyIs(x, "IDLE", 11, 0, 2, 4, 2, 4);
        x.work(1);
        Due.whyIs(x, "PAST", 11, 1, 4, 5, 2, 1);
        x.work(2);
        Due.whyIs(x, "IDLE in a ( )", 11, 2, 2, 10, 0, 1, 4, 3, 4);
        x.work(3);
        Due.whyIs(x, "PAST in a < >", 11, 3, 4, 10, 0, 1, 5, 3, 1);
        x.work(4);
        Due.whyIs(x, "SHORT is in it", 11, 4, 3, 10, 2, 1, 1, 5, 1);
    }

    private static void overleftHitch() {
        Doc.says("6 OVERLEFT: at the end of the ROW some are left.");
        hitchIs("k2,yo", 3, 6, 5, 1, 3);
        hitchIs("yo", 60, 6, 2, 60, 1);
        hitchIs("<k>1", 2, 6, 4, 1, 1);
        hitchIs("<k>5", 5, 6, 4, 5, 0);
        Due.due("none are left", Due.knit(0, "k2,yo").hitch(0, 2), -1);
    }

    private static KnitReader filled() {
        KnitReader x = Due.knit(4, "k4", "k5", "k3");
        x.run(0, 0, 20);
        x.run(0, 0, 20);
        x.run(0, 0, 10);
        return x;
    }

    private static void filledHitch() {
        Doc.says("7 FILLED: it would be the 51st WORKED ROW (looked at first).");
        KnitReader x = filled();
        Due.due("50 WORKED ROWS", x.status(1), 50);
        for (int line = 0; line < 3; line++) {
            Due.due("work(" + line + ")", x.work(line), Due.STUCK);
            Due.whyIs(x, "FILLED, whatever else it had", 11, line, 0, 7, 0, 4);
        }
        x.rip(1);
        x.work(1);
        Due.due("the 50th isn't", x.why(1, 0), 1);
        Due.due("the 50th can be", x.work(0), 4);
    }

    private static void whyChain() {
        Doc.says("WHY (none at first): a chain of CAUSES, the outermost first: of a RUN: 12, which time of the RUN (1 on), the ROW's number; "
            + "of a ROW: 11, the ROW's number, how many STITCHES were worked so far; of each ( ) or < > in which it happened, the outer "
            + "one first: 10, its place in the text, which time (1 on); at the end the HITCH itself: its number, the place in the text "
            + "(of the PART; of OVERLEFT the text's size; of FILLED 0), how many were left on the needle.");
        KnitReader x = Due.knit(12, "bo,<k>0", "k,(p,<k,(sl,kt2)2>1)3,k");
        Due.due("none at first", x.causes(), 0);
        Due.due("no link at first", x.why(0, 0), Due.BAD);
        // of 11: k, p, k, sl, kt, kt; left 3: sl, kt; left 0
        Due.due("run(0, 1, 3)", x.run(0, 1, 3), Due.STUCK);
        Due.whyIs(x, "of a RUN", 12, 1, 1, 11, 1, 8, 10, 2, 1, 10, 5, 1, 10, 8, 2, 1, 12, 0);
        x.rip(1);
        // of 12: k, p, k, sl, kt, kt; left 4: sl, kt; left 1, too few for the second kt
        x.work(1);
        Due.whyIs(x, "of a ROW", 11, 1, 8, 10, 2, 1, 10, 5, 1, 10, 8, 2, 1, 12, 1);
        KnitReader y = Due.knit(4, "bo,<k>0");
        y.run(0, 0, 20);
        Due.whyIs(y, "the fifth time of the RUN", 12, 5, 0, 11, 0, 0, 1, 0, 0);
        KnitReader z = Due.knit(5, "<(k)2>1", "k2,p2");
        z.work(0);
        Due.whyIs(z, "OVERLEFT has the text's size", 11, 0, 4, 6, 7, 1);
        z.work(1);
        Due.whyIs(z, "another ROW", 11, 1, 4, 6, 5, 1);
        KnitReader w = filled();
        w.run(0, 1, 1);
        Due.whyIs(w, "FILLED has 0", 12, 1, 0, 11, 0, 0, 7, 0, 4);
        KnitReader v = Due.knit(9, "k,(<(<(k,sd2)2>1)2>0)2");
        // k, k, sd, sd: left 1; k: left 0
        v.work(0);
        Due.whyIs(v, "five in one another", 11, 0, 5, 10, 2, 1, 10, 3, 1, 10, 4, 1, 10, 5, 1, 10, 6, 2, 1, 9, 0);
    }

    private static void whyIsTheLatest() {
        Doc.says("The latest that was refused (by STUCK) in truth (what HITCHES in days() isn't kept).");
        KnitReader x = Due.knit(3, "k4", "k3", "yo,k2");
        x.work(0);
        Due.whyIs(x, "the latest", 11, 0, 3, 1, 0, 0);
        x.run(2, 2, 1);
        Due.whyIs(x, "the latest", 12, 1, 2, 11, 2, 3, 6, 5, 1);
        x.work(1);
        x.mode(1);
        x.run(1, 1, 3);
        x.rip(1);
        x.hitch(0, 3);
        x.would(0, 3, 0);
        x.fits(0);
        x.least();
        x.times(0, 2);
        x.days(20);
        x.work(9);
        x.run(0, 9, 1);
        x.cast(5);
        x.back();
        Due.whyIs(x, "as it was", 12, 1, 2, 11, 2, 3, 6, 5, 1);
        Due.due("STUCK: work, run, mode, cast, back", x.status(15), 5);
    }

    private static void runs() {
        Doc.says("A RUN of ROWS from one to another one, n times: WORKED one behind the other; a HITCH ends it (what was WORKED ahead of it "
            + "stays).");
        KnitReader x = Due.knit(9, "k9", "<p>0", "sl,<k>0", "bo,<k>0");
        Due.due("run(1, 2, 3)", x.run(1, 2, 3), 6);
        for (int worked = 0; worked < 6; worked++) {
            Due.due("ROW of " + worked, x.workedOf(worked, 5), 1 + worked % 2);
        }
        Due.due("run(0, 3, 2)", x.run(0, 3, 2), Due.STUCK);
        Due.due("4 of them stay", x.status(1), 10);
        Due.due("the needle", x.status(2), 8);
        Due.whyIs(x, "WHY", 12, 2, 0, 11, 0, 8, 1, 0, 0);
    }

    private static void casts() {
        Doc.says("CAST: the needle, with nothing on it, gets n STITCHES (SIDE RIGHT).");
        KnitReader x = Due.knit(0, "k7", "yo");
        x.work(1);
        x.rip(1);
        Due.due("cast(7)", x.cast(7), 7);
        Due.due("STITCHES", x.status(2), 7);
        Due.due("SIDE", x.status(3), 0);
        Due.due("with something on it", x.cast(7), Due.STUCK);
        Due.due("work(0)", x.work(0), 7);
    }

    private static void rippedBack() {
        Doc.says("RIPPED BACK by n: the latest n WORKED ROWS are no more; the needle and SIDE are as they were ahead of them. ```");
        int[] needle = {8, 7, 9, 9, 0};
        for (int mode = 0; mode < 2; mode++) {
            for (int n = 1; n <= 4; n++) {
                KnitReader x = Due.knit(8, "kt,<k>0", "m,<k>0,m", "<p>0", "<bo>0");
                x.mode(mode);
                x.run(0, 3, 1);
                Due.due("all of them", x.status(2), needle[4]);
                Due.due("rip(" + n + ")", x.rip(n), 4 - n);
                Due.due("WORKED ROWS", x.status(1), 4 - n);
                Due.due("the needle", x.status(2), needle[4 - n]);
                Due.due("SIDE", x.status(3), mode == 1 ? 0 : (4 - n) % 2);
                Due.due("no more", x.workedOf(4 - n, 5), Due.BAD);
                Due.due("still there", x.workedOf(3 - n, 5), n == 4 ? Due.BAD : 3 - n);
            }
        }
    }
}
