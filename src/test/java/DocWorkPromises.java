/** DocumentTest's sixth part: promises 13 to 26, working in truth and in thought. */
final class DocWorkPromises {
    private DocWorkPromises() {
    }

    static void go() {
        mode();
        cast();
        work();
        run();
        rip();
        causes();
        why();
        lineOf();
        text();
        would();
        hitch();
        fits();
        least();
        times();
    }

    private static void mode() {
        Doc.says("## Promise 13: mode `int mode(int v)`: MODE becomes v: what it was. BAD; STUCK: there are WORKED ROWS.");
        KnitReader x = Due.knit(1, "k");
        Due.due("mode(1)", x.mode(1), 0);
        Due.due("mode(0)", x.mode(0), 1);
        Due.due("mode(1)", x.mode(1), 0);
        Due.refused(x, "mode(2)", 0, x.mode(2), Due.BAD);
        Due.refused(x, "mode(-1)", 1, x.mode(-1), Due.BAD);
        x.work(0);
        Due.refused(x, "mode(0)", 0, x.mode(0), Due.STUCK);
        Due.refused(x, "mode(1)", 1, x.mode(1), Due.STUCK);
        Due.refused(x, "mode(2)", 2, x.mode(2), Due.BAD);
        Due.due("status(4)", x.status(4), 1);
        x.rip(1);
        Due.due("with none WORKED", x.mode(0), 1);
    }

    private static void cast() {
        Doc.says("## Promise 14: cast `int cast(int n)`: CAST n (1 to 60): n. BAD; STUCK: the needle has STITCHES, or there are WORKED ROWS.");
        KnitReader x = Due.knit(0, "<bo>0");
        Due.refused(x, "cast(0)", 0, x.cast(0), Due.BAD);
        Due.refused(x, "cast(61)", 1, x.cast(61), Due.BAD);
        Due.due("cast(1)", x.cast(1), 1);
        Due.refused(x, "on STITCHES", 0, x.cast(60), Due.STUCK);
        Due.refused(x, "BAD comes first", 2, x.cast(61), Due.BAD);
        x.work(0);
        Due.due("nothing on it", x.status(2), 0);
        Due.refused(x, "on WORKED ROWS", 1, x.cast(60), Due.STUCK);
        Due.due("cast(60)", new KnitReader().cast(60), 60);
    }

    private static void work() {
        Doc.says("## Promise 15: work `int work(int line)`: A ROW is WORKED: how many the needle has. BAD; STUCK: a HITCH (WHY).");
        KnitReader x = Due.knit(4, "k4,yo", "<kt>1,<k>0", "k9");
        Due.due("work(0)", x.work(0), 5);
        Due.due("work(1)", x.work(1), 3);
        Due.refused(x, "work(-1)", 0, x.work(-1), Due.BAD);
        Due.refused(x, "work(3)", 1, x.work(3), Due.BAD);
        Due.due("no WHY of BAD", x.causes(), 0);
        Due.refused(x, "work(2)", 0, x.work(2), Due.STUCK);
        Due.whyIs(x, "WHY", 11, 2, 3, 1, 0, 0);
        Due.due("work of all", Due.knit(7, "<bo>0").work(0), 0);
    }

    private static void run() {
        Doc.says("## Promise 16: run `int run(int from, int to, int n)`: A RUN of ROWS from one to another one (not lesser), n times (1 to 20): "
            + "how many were WORKED. BAD; STUCK: a HITCH (WHY).");
        KnitReader x = Due.knit(4, "k4", "p4", "k5");
        Due.due("run(0, 1, 3)", x.run(0, 1, 3), 6);
        Due.due("run(1, 1, 20)", x.run(1, 1, 20), 20);
        for (int i = 0; i < 6; i++) {
            Due.due("one behind the other: " + i, x.workedOf(i, 5), i % 2);
        }
        int[][] bad = {{-1, 1, 1}, {0, 3, 1}, {1, 0, 1}, {0, 1, 0}, {0, 1, 21}, {0, 1, -1}, {3, 3, 1}};
        for (int i = 0; i < bad.length; i++) {
            Due.refused(x, "run, bad " + i, i, x.run(bad[i][0], bad[i][1], bad[i][2]), Due.BAD);
        }
        Due.due("no WHY of BAD", x.causes(), 0);
        Due.refused(x, "run(1, 2, 2)", 0, x.run(1, 2, 2), Due.STUCK);
        Due.whyIs(x, "WHY", 12, 1, 2, 11, 2, 4, 1, 0, 0);
        Due.due("what was WORKED ahead stays", x.status(1), 27);
    }

    private static void rip() {
        Doc.says("## Promise 17: rip `int rip(int n)`: RIPPED BACK by n (1 at least): how many WORKED ROWS are left. BAD: more than there are.");
        KnitReader x = Due.knit(4, "k4", "kt,k2");
        x.run(0, 1, 1);
        Due.refused(x, "rip(0)", 0, x.rip(0), Due.BAD);
        Due.refused(x, "rip(-1)", 1, x.rip(-1), Due.BAD);
        Due.refused(x, "rip(3)", 2, x.rip(3), Due.BAD);
        Due.due("rip(1)", x.rip(1), 1);
        Due.due("the needle", x.status(2), 4);
        Due.due("rip(1)", x.rip(1), 0);
        Due.refused(x, "rip(1)", 3, x.rip(1), Due.BAD);
    }

    private static void causes() {
        Doc.says("## Promise 18: causes `int causes()`: How many links WHY has.");
        KnitReader x = Due.knit(2, "k3", "(((((k3)1)1)1)1)1");
        Due.due("none", x.causes(), 0);
        x.work(0);
        Due.due("a ROW and the HITCH", x.causes(), 2);
        x.run(1, 1, 1);
        Due.due("a RUN, a ROW, five ( ), the HITCH", x.causes(), 8);
        x.run(0, 0, 1);
        Due.due("a RUN, a ROW, the HITCH", x.causes(), 3);
    }

    private static void why() {
        Doc.says("## Promise 19: why `int why(int i, int what)`: Link i of WHY: the number (what 0), the second (1), the third (2). BAD: also "
            + "no i-th.");
        KnitReader x = Due.knit(3, "(k)5");
        Due.refused(x, "why(0, 0) of none", 0, x.why(0, 0), Due.BAD);
        x.work(0);
        int[][] due = {{11, 0, 3}, {10, 0, 4}, {1, 1, 0}};
        for (int i = 0; i < 3; i++) {
            for (int what = 0; what < 3; what++) {
                Due.due("why(" + i + ", " + what + ")", x.why(i, what), due[i][what]);
            }
        }
        int[][] bad = {{-1, 0}, {3, 0}, {0, -1}, {0, 3}, {2, 3}, {3, 3}};
        for (int i = 0; i < bad.length; i++) {
            Due.refused(x, "why, bad " + i, i + 1, x.why(bad[i][0], bad[i][1]), Due.BAD);
        }
    }

    private static void lineOf() {
        Doc.says("## Promise 20: lineOf `int lineOf(int line, int what)`: Of a ROW: how many PARTS it has in all, within others, too (what 0), "
            + "within how many others one stands at most (1), the size of its text (2), 1 if it has a < >, else 0 (3). BAD.");
        String[] rows = {"k", "k,p2,sl", "(k)2", "k,(p,<k2>3)4,<(m)1>0", "(((((k)1)1)1)1)1,k", "((k,p)2,(k,(p)2)2)2"};
        int[][] due = {{1, 0, 1, 0}, {3, 0, 7, 0}, {2, 1, 4, 0}, {8, 2, 20, 1}, {7, 5, 18, 0}, {8, 3, 19, 0}};
        KnitReader x = Due.knit(0, rows);
        for (int line = 0; line < rows.length; line++) {
            for (int what = 0; what < 4; what++) {
                Due.due("lineOf(" + line + ", " + what + ") of " + rows[line], x.lineOf(line, what), due[line][what]);
            }
        }
        int[][] bad = {{-1, 0}, {6, 0}, {0, -1}, {0, 4}, {6, 4}};
        for (int i = 0; i < bad.length; i++) {
            Due.refused(x, "lineOf, bad " + i, i, x.lineOf(bad[i][0], bad[i][1]), Due.BAD);
        }
    }

    private static void text() {
        Doc.says("## Promise 21: text `int text(int line, int i)`: Byte i of a ROW's text; NONE: none such. BAD. (NONE isn't refused.)");
        String row = "<(k05,yo)2,sk>00,m";
        KnitReader x = Due.knit(0, "p", row);
        for (int i = 0; i < row.length(); i++) {
            Due.due("text(1, " + i + ")", x.text(1, i), row.charAt(i));
        }
        Due.due("behind it", x.text(1, row.length()), -1);
        Due.due("ahead of it", x.text(1, -1), -1);
        Due.due("NONE isn't refused", x.status(12), 0);
        Due.refused(x, "text(2, 0)", 0, x.text(2, 0), Due.BAD);
        Due.refused(x, "text(-1, 0)", 1, x.text(-1, 0), Due.BAD);
    }

    /** With 50 WORKED ROWS. */
    private static KnitReader filled() {
        KnitReader x = Due.knit(3, "k3");
        x.run(0, 0, 20);
        x.run(0, 0, 20);
        x.run(0, 0, 10);
        return x;
    }

    private static void would() {
        Doc.says("## Promise 22: would `int would(int line, int n, int what)`: In thought, were there n (0 to 60) on the needle, and no WORKED "
            + "ROW: how many there would be behind a ROW (what 0), how many STITCHES it had (1), its YARN (2); NONE: a HITCH. BAD. (NONE "
            + "isn't refused.)");
        KnitReader x = Due.knit(9, "<kt,yo2>1,bo", "yo");
        x.work(0);
        for (int n = 0; n <= 60; n++) {
            boolean can = n % 2 == 1;
            int times = n / 2;
            Due.due("would(0, " + n + ", 0)", x.would(0, n, 0), can && times <= 20 ? 3 * times : -1);
            Due.due("would(0, " + n + ", 1)", x.would(0, n, 1), can && times <= 20 ? 3 * times + 1 : -1);
            Due.due("would(0, " + n + ", 2)", x.would(0, n, 2), can && times <= 20 ? 38 * times + 15 : -1);
        }
        Due.due("NONE isn't refused", x.status(12) + x.status(15), 0);
        Due.due("nothing is changed", x.status(2), 12);
        Due.due("no WORKED ROW", filled().would(0, 3, 2), 30);
        int[][] bad = {{-1, 1, 0}, {2, 1, 0}, {0, -1, 0}, {0, 61, 0}, {0, 1, -1}, {0, 1, 3}};
        for (int i = 0; i < bad.length; i++) {
            Due.refused(x, "would, bad " + i, i, x.would(bad[i][0], bad[i][1], bad[i][2]), Due.BAD);
        }
    }

    private static void hitch() {
        Doc.says("## Promise 23: hitch `int hitch(int line, int n)`: Of that, the HITCH (1 to 6); NONE: none. BAD. (NONE isn't refused.)");
        KnitReader x = Due.knit(0, "<k>2,kt", "k2,<m>1,k", "k9", "yo,<k>0");
        int[][] due = {{5, 5, -1, -1}, {1, 1, 5, -1}, {1, 1, 1, 1}, {-1, -1, -1, -1}};
        for (int line = 0; line < 4; line++) {
            for (int n = 0; n < 4; n++) {
                Due.due("hitch(" + line + ", " + n + ")", x.hitch(line, n), due[line][n]);
            }
        }
        Due.due("IDLE", x.hitch(1, 4), 4);
        Due.due("OVERLEFT", x.hitch(2, 10), 6);
        Due.due("WIDE", x.hitch(3, 60), 2);
        Due.due("no WHY", x.causes(), 0);
        Due.due("no WORKED ROW", filled().hitch(0, 3), -1);
        Due.due("NONE isn't refused", x.status(12) + x.status(15), 0);
        int[][] bad = {{-1, 1}, {4, 1}, {0, -1}, {0, 61}};
        for (int i = 0; i < bad.length; i++) {
            Due.refused(x, "hitch, bad " + i, i, x.hitch(bad[i][0], bad[i][1]), Due.BAD);
        }
    }

    private static void fits() {
        Doc.says("## Promise 24: fits `long fits(int line)`: Counts (bits 0 to 60) with which a ROW has no HITCH. Refused: the number less "
            + "9,000,000,000,000,000,000. BAD.");
        KnitReader x = Due.knit(0, "<k>0", "<k,p>0", "<k4>3,p3", "yo,<k>0", "k60", "k,yo60", "bo,yo60");
        long even = 0;
        long fours = 0;
        for (int n = 0; n <= 60; n++) {
            even |= n % 2 == 0 ? 1L << n : 0;
            fours |= n % 4 == 3 ? 1L << n : 0;
        }
        long[] due = {(1L << 61) - 1, even, fours, (1L << 60) - 1, 1L << 60, 0, 2};
        for (int line = 0; line < due.length; line++) {
            Due.due("fits(" + line + ")", x.fits(line), due[line]);
        }
        Due.due("50 WORKED ROWS don't count", filled().fits(0), 8);
        Due.due("fits(7)", x.fits(7), -9_000_000_000_000_000_092L);
        Due.due("fits(-1)", x.fits(-1), -9_000_000_000_000_000_092L);
        Due.due("BAD", x.status(12), 2);
    }

    private static void least() {
        Doc.says("## Promise 25: least `int least()`: The least n (0 to 60) with which all ROWS, one behind the other by numbers, could be "
            + "WORKED, in thought (on nothing WORKED); NONE. (NONE isn't refused.)");
        KnitReader x = new KnitReader();
        Due.due("no ROWS", x.least(), 0);
        Due.tell(x, "<k2>1,p");
        Due.due("least of an odd count", x.least(), 1);
        Due.tell(x, "kt3,<k>0");
        Due.due("of 6 and an odd count", x.least(), 7);
        Due.tell(x, "<k>5,bo5");
        Due.due("of 8 and an odd count", x.least(), 9);
        Due.tell(x, "k56");
        Due.due("61 and more", x.least(), -1);
        x.drop();
        Due.tell(x, "<k>50,p50");
        Due.due("58 and an odd count", x.least(), 59);
        Due.due("60", Due.knit(0, "k60").least(), 60);
        Due.due("on nothing WORKED", filled().least(), 3);
        Due.due("NONE isn't refused", x.status(12) + x.status(15), 0);
        Due.due("nothing is changed", x.status(1) + x.status(2), 0);
    }

    private static void times() {
        Doc.says("## Promise 26: times `int times(int from, int to)`: In thought: how many times (0 to 50) a RUN of ROWS from one to another one "
            + "could be WORKED now, whole. BAD.");
        KnitReader x = Due.knit(20, "kt,<k>0", "k2,<p>0", "<k>0", "k9");
        Due.due("times(0, 0)", x.times(0, 0), 19);
        Due.due("times(0, 1)", x.times(0, 1), 18);
        Due.due("times(1, 1)", x.times(1, 1), 50);
        Due.due("times(1, 2)", x.times(1, 2), 25);
        Due.due("times(3, 3)", x.times(3, 3), 0);
        x.run(0, 0, 15);
        Due.due("times(0, 0) with 15 WORKED", x.times(0, 0), 4);
        Due.due("times(0, 1) with 15 WORKED", x.times(0, 1), 3);
        Due.due("times(2, 2) with 15 WORKED", x.times(2, 2), 35);
        Due.due("times(1, 2) with 15 WORKED", x.times(1, 2), 17);
        Due.due("nothing is changed", x.status(1), 15);
        int[][] bad = {{-1, 0}, {0, 4}, {4, 4}, {2, 1}};
        for (int i = 0; i < bad.length; i++) {
            Due.refused(x, "times, bad " + i, i, x.times(bad[i][0], bad[i][1]), Due.BAD);
        }
    }
}
