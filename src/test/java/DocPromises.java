/** DocumentTest's fifth part: promises 1 to 12, a new object, SHELVES, THE TAPE and ROWS. */
final class DocPromises {
    private DocPromises() {
    }

    static void go() {
        newObject();
        row();
        set();
        copy();
        copyOfAll();
        element();
        holds();
        show();
        says();
        feed();
        wipe();
        line();
        drop();
    }

    private static void newObject() {
        Doc.says("## Promise 1: A new object `KnitReader()`: No ROWS, nothing WORKED, the needle has nothing; FLAT; SHELVES hold NOTHING; THE "
            + "TAPE is empty.");
        KnitReader x = new KnitReader();
        int[] due = {0, 0, 0, 0, 0, 0, 1, 0, -1, -1, -1, -1, 0, 0, 0, 0, 0, -1};
        for (int what = 0; what < due.length; what++) {
            Due.due("status(" + what + ")", x.status(what), due[what]);
        }
        for (int s = 0; s < 8; s++) {
            Due.due("holds(" + s + ")", x.holds(s), -1);
        }
        Due.due("wipe()", x.wipe(), 0);
        Due.due("workedOf(0, 0)", x.workedOf(0, 0), Due.BAD);
        Due.due("lineOf(0, 0)", x.lineOf(0, 0), Due.BAD);
        Due.due("mode(0)", x.mode(0), 0);
    }

    private static void row() {
        Doc.says("## Promise 2: row `int row(int s, int sort, int n)`: SHELF s holds a new ROW OF NUMBERS: 1. BAD.");
        KnitReader x = new KnitReader();
        Due.due("row(0, 0, 0)", x.row(0, 0, 0), 1);
        Due.due("row(7, 4, 40)", x.row(7, 4, 40), 1);
        x.set(7, 39, 1);
        int[][] bad = {{-1, 0, 1}, {8, 0, 1}, {7, -1, 1}, {7, 5, 1}, {7, 0, -1}, {7, 0, 41}};
        for (int i = 0; i < bad.length; i++) {
            Due.refused(x, "row, bad " + i, i, x.row(bad[i][0], bad[i][1], bad[i][2]), Due.BAD);
        }
        Due.due("as it was", x.element(7, 39), 1);
        Due.due("a new one", x.row(7, 4, 40), 1);
        Due.due("has 0", x.element(7, 39), 0);
    }

    private static void set() {
        Doc.says("## Promise 3: set `int set(int s, int i, long v)`: Element i of the ROW OF NUMBERS in SHELF s becomes v: 1. BAD SHELF; "
            + "OTHER; NOTHING; BAD i.");
        KnitReader x = Due.knit(1, "k");
        x.work(0);
        x.row(0, 3, 2);
        x.show(1, 0, 0);
        Due.due("set(0, 0, max)", x.set(0, 0, Long.MAX_VALUE), 1);
        Due.due("set(0, 1, min)", x.set(0, 1, Long.MIN_VALUE), 1);
        Due.refused(x, "no SHELF", 0, x.set(8, 9, 1), Due.BAD);
        Due.refused(x, "no SHELF", 1, x.set(-1, 9, 1), Due.BAD);
        Due.refused(x, "a STITCH", 0, x.set(1, 9, 1), Due.OTHER);
        Due.refused(x, "NOTHING", 0, x.set(2, 9, 1), Due.NOTHING);
        Due.refused(x, "no element", 2, x.set(0, 2, 1), Due.BAD);
        Due.refused(x, "no element", 3, x.set(0, -1, 1), Due.BAD);
        Due.due("element(0, 0)", x.element(0, 0), Long.MAX_VALUE);
        Due.due("element(0, 1)", x.element(0, 1), Long.MIN_VALUE);
    }

    private static KnitReader numbers(int n) {
        KnitReader x = Due.knit(1, "k");
        x.work(0);
        for (int s = 0; s < 2; s++) {
            x.row(s, 2, n);
            for (int i = 0; i < n; i++) {
                x.set(s, i, 100 * s + i);
            }
        }
        return x;
    }

    private static void copy() {
        Doc.says("## Promise 4: copy `int copy(int p, int q, int i, int j, int n)`: n elements of the ROW OF NUMBERS in SHELF p from place i "
            + "on come to places j on of that in q (as they were): n. BAD SHELVES; OTHER (also two of unlike SORTS, if both hold "
            + "something); NOTHING; BAD the others.");
        KnitReader x = numbers(5);
        Due.due("copy(0, 1, 1, 3, 2)", x.copy(0, 1, 1, 3, 2), 2);
        long[] due = {100, 101, 102, 1, 2};
        for (int i = 0; i < 5; i++) {
            Due.due("element(1, " + i + ")", x.element(1, i), due[i]);
            Due.due("element(0, " + i + ")", x.element(0, i), i);
        }
        Due.due("copy(0, 1, 2, 2, 0)", x.copy(0, 1, 2, 2, 0), 0);
        Due.due("copy(0, 0, 0, 1, 4), as they were", x.copy(0, 0, 0, 1, 4), 4);
        Due.due("element(0, 4)", x.element(0, 4), 3);
        Due.due("copy(0, 0, 1, 0, 4), as they were", x.copy(0, 0, 1, 0, 4), 4);
        Due.due("element(0, 0)", x.element(0, 0), 0);
        Due.due("element(0, 3)", x.element(0, 3), 3);
        x.show(2, 0, 0);
        x.row(3, 3, 5);
        int[][] calls = {{8, 2, 0, 0, 1, Due.BAD}, {2, -1, 0, 0, 1, Due.BAD}, {2, 4, 9, 9, 9, Due.OTHER}, {4, 2, 9, 9, 9, Due.OTHER},
            {0, 3, 9, 9, 9, Due.OTHER}, {3, 1, 9, 9, 9, Due.OTHER}, {3, 4, 9, 9, 9, Due.NOTHING}, {4, 0, 9, 9, 9, Due.NOTHING},
            {4, 5, 9, 9, 9, Due.NOTHING}, {0, 1, -1, 0, 1, Due.BAD}, {0, 1, 0, -1, 1, Due.BAD}, {0, 1, 0, 0, -1, Due.BAD},
            {0, 1, 4, 0, 2, Due.BAD}, {0, 1, 0, 4, 2, Due.BAD}, {0, 1, 5, 0, 1, Due.BAD}, {0, 1, 0, 5, 1, Due.BAD},
            {0, 1, 0, 0, 6, Due.BAD}, {0, 1, 1, 1, Integer.MAX_VALUE, Due.BAD}, {0, 1, Integer.MAX_VALUE, 0, 1, Due.BAD}};
        for (int[] c : calls) {
            String call = "copy(" + c[0] + ", " + c[1] + ", " + c[2] + ", " + c[3] + ", " + c[4] + ")";
            Due.refused(x, call, x.status(-80 - c[5]), x.copy(c[0], c[1], c[2], c[3], c[4]), c[5]);
        }
        Due.due("nothing came", x.element(1, 0), 100);
    }

    /** What is copied is of its own then. */
    private static void copyOfAll() {
        int[] sizes = {1, 5, 40};
        for (int n : sizes) {
            KnitReader x = numbers(n);
            Due.due("copy of all " + n, x.copy(0, 1, 0, 0, n), n);
            x.set(0, 0, -5);
            x.set(1, n - 1, -6);
            Due.due("element(0, 0)", x.element(0, 0), -5);
            Due.due("element(1, 0)", x.element(1, 0), n == 1 ? -6 : 0);
            Due.due("element(0, " + (n - 1) + ")", x.element(0, n - 1), n == 1 ? -5 : n - 1);
            x.row(0, 2, n);
            Due.due("element(1, " + (n - 1) + ")", x.element(1, n - 1), -6);
        }
    }

    private static void element() {
        Doc.says("## Promise 5: element `long element(int s, int i)`: Element i of the ROW OF NUMBERS; 0: none, no such ROW (nothing is "
            + "refused).");
        KnitReader x = numbers(3);
        x.show(2, 0, 0);
        Due.due("element(1, 2)", x.element(1, 2), 102);
        int[][] none = {{1, 3}, {1, -1}, {2, 0}, {3, 0}, {8, 0}, {-1, 0}};
        for (int[] c : none) {
            Due.due("element(" + c[0] + ", " + c[1] + ")", x.element(c[0], c[1]), 0);
        }
        for (int what = 12; what <= 16; what++) {
            Due.due("nothing is refused", x.status(what), 0);
        }
    }

    private static void holds() {
        Doc.says("## Promise 6: holds `int holds(int s)`: What SHELF s holds: NONE NOTHING, no SHELF; 0 to 4 a ROW OF NUMBERS by its SORT; 10 "
            + "and the KIND of a STITCH.");
        KnitReader x = Due.knit(11, "k,p,sl,yo,m,kt,sk,bo,sd");
        x.work(0);
        Due.due("NOTHING", x.holds(0), -1);
        Due.due("no SHELF", x.holds(8), -1);
        Due.due("no SHELF", x.holds(-1), -1);
        for (int sort = 0; sort < 5; sort++) {
            x.row(0, sort, 1);
            Due.due("SORT " + sort, x.holds(0), sort);
        }
        for (int kind = 4; kind <= 12; kind++) {
            x.show(0, 0, kind - 4);
            Due.due("KIND " + kind, x.holds(0), 10 + kind);
        }
    }

    private static void show() {
        Doc.says("## Promise 7: show `int show(int s, int worked, int i)`: SHELF s holds the i-th STITCH of a WORKED ROW (0 the first that was "
            + "worked), or NOTHING (worked NONE): 1. BAD SHELF, worked, i.");
        KnitReader x = DocAsked.wrong(5, "p,kt,sk");
        int[] kinds = {5, 9, 10};
        for (int i = 0; i < 3; i++) {
            Due.due("show(3, 1, " + i + ")", x.show(3, 1, i), 1);
            Due.due("as it was worked, on the WRONG SIDE, too", x.holds(3), 10 + kinds[i]);
        }
        int[][] bad = {{-1, 1, 0}, {8, 1, 0}, {8, -1, 0}, {3, 2, 0}, {3, -2, 0}, {3, 1, 3}, {3, 1, -1}, {3, 0, 5}};
        for (int i = 0; i < bad.length; i++) {
            Due.refused(x, "show, bad " + i, i, x.show(bad[i][0], bad[i][1], bad[i][2]), Due.BAD);
            Due.due("as it was", x.holds(3), 20);
        }
        // where NOTHING is wanted there is no i-th STITCH to be wrong
        int[] any = {0, 3, -1, Integer.MAX_VALUE, Integer.MIN_VALUE};
        for (int i : any) {
            x.show(3, 1, 0);
            Due.due("show(3, NONE, " + i + ")", x.show(3, -1, i), 1);
            Due.due("NOTHING", x.holds(3), -1);
        }
        Due.due("BAD", x.status(12), bad.length);
    }

    private static void says() {
        Doc.says("## Promise 8: says `int says(int s, int kind)`: What the STITCH in SHELF s, taken for one of a KIND, says: STITCH its YARN; "
            + "PLAIN 1; GAIN how many it MAKES; LOSS how many it TAKES less those it MAKES; KNIT, PURL the KIND it looks like from the "
            + "other side; SLIP 4; OVER, LIFT its KIND; RIGHT, LEFT the KIND it is TURNED to (a DOUBLE, taken for a LEFT: 12); OFF 0; "
            + "DOUBLE 2. BAD SHELF, KIND (0 to 12); OTHER (also if it is of no such KIND nor of one under it); NOTHING.");
        int no = Due.OTHER;
        int[][] due = {
            {10, 1, no, no, 5, no, no, no, no, no, no, no, no}, {11, 1, no, no, no, 4, no, no, no, no, no, no, no},
            {4, 1, no, no, no, no, 4, no, no, no, no, no, no}, {13, no, 1, no, no, no, no, 7, no, no, no, no, no},
            {9, no, 1, no, no, no, no, no, 8, no, no, no, no}, {12, no, no, 1, no, no, no, no, no, 10, no, no, no},
            {14, no, no, 1, no, no, no, no, no, no, 9, no, no}, {15, no, no, 1, no, no, no, no, no, no, no, 0, no},
            {18, no, no, 2, no, no, no, no, no, no, 12, no, 2}};
        KnitReader x = Due.knit(11, "k,p,sl,yo,m,kt,sk,bo,sd");
        x.work(0);
        int others = 0;
        for (int i = 0; i < due.length; i++) {
            x.show(0, 0, i);
            for (int kind = 0; kind <= 12; kind++) {
                Due.due("a " + (4 + i) + ", taken for a " + kind, x.says(0, kind), due[i][kind]);
                others += due[i][kind] == no ? 1 : 0;
            }
        }
        Due.due("OTHER", x.status(13), others);
        x.row(1, 0, 1);
        Due.refused(x, "a ROW OF NUMBERS", others, x.says(1, 0), Due.OTHER);
        Due.refused(x, "NOTHING", 0, x.says(2, 12), Due.NOTHING);
        int[][] bad = {{-1, 0}, {8, 0}, {0, -1}, {0, 13}, {1, 13}, {2, 13}};
        for (int i = 0; i < bad.length; i++) {
            Due.refused(x, "says, bad " + i, i, x.says(bad[i][0], bad[i][1]), Due.BAD);
        }
    }

    private static void feed() {
        Doc.says("## Promise 9: feed `int feed(int letter)`: THE TAPE gets one byte (0 to 255) behind it: its size. BAD; FULL.");
        KnitReader x = new KnitReader();
        Due.due("feed(0)", x.feed(0), 1);
        Due.due("feed(255)", x.feed(255), 2);
        Due.refused(x, "feed(-1)", 0, x.feed(-1), Due.BAD);
        Due.refused(x, "feed(256)", 1, x.feed(256), Due.BAD);
        for (int size = 3; size <= 250; size++) {
            Due.due("feed", x.feed('k'), size);
        }
        Due.refused(x, "a 251st", 0, x.feed('k'), Due.FULL);
        Due.refused(x, "a 251st that may not be", 2, x.feed(256), Due.BAD);
        KnitReader y = new KnitReader();
        Due.feed(y, "sl");
        y.line();
        Due.due("behind it: s", y.text(0, 0), 's');
        Due.due("behind it: l", y.text(0, 1), 'l');
    }

    private static void wipe() {
        Doc.says("## Promise 10: wipe `int wipe()`: THE TAPE is empty: its size ahead.");
        KnitReader x = new KnitReader();
        Due.feed(x, "k2,p");
        Due.due("wipe()", x.wipe(), 4);
        Due.due("status(5)", x.status(5), 0);
        Due.due("wipe() again", x.wipe(), 0);
        Due.due("a ROW of what comes behind", Due.tell(x, "sl"), 0);
        Due.due("its size", x.lineOf(0, 2), 2);
    }

    private static void line() {
        Doc.says("## Promise 11: line `int line()`: THE TAPE is one more ROW: its number; -600 less the FAULT (that is refused, too: BAD); "
            + "FULL: no FAULT, but no room. THE TAPE is empty then, in any case.");
        KnitReader x = new KnitReader();
        for (int line = 0; line < 20; line++) {
            Due.due("line()", Due.tell(x, "k,p2"), line);
            Due.due("THE TAPE", x.status(5), 0);
            Due.refused(x, "with a FAULT", line, Due.tell(x, "k,p0") + 603 + Due.BAD, Due.BAD);
            Due.due("THE TAPE", x.status(5), 0);
        }
        Due.refused(x, "a FAULT, and no room", 20, Due.tell(x, "k,p0") + 603 + Due.BAD, Due.BAD);
        Due.feed(x, "k,p2");
        Due.refused(x, "no FAULT, but no room", 0, x.line(), Due.FULL);
        Due.due("THE TAPE", x.status(5), 0);
        Due.due("BAD", x.status(12), 21);
        Due.due("ROWS", x.status(0), 20);
    }

    private static void drop() {
        Doc.says("## Promise 12: drop `int drop()`: The last ROW is no more: how many there are. STUCK: there are none.");
        KnitReader x = Due.knit(2, "k2", "p2", "sl2");
        x.work(2);
        Due.due("drop()", x.drop(), 2);
        Due.due("no more", x.work(2), Due.BAD);
        Due.due("but WORKED it was", x.workedOf(0, 5), 2);
        Due.due("as another one", Due.tell(x, "k,yo,k"), 2);
        Due.due("what was WORKED is as it was", x.stitch(0, 1, 0), 6);
        Due.due("drop()", x.drop(), 2);
        Due.due("drop()", x.drop(), 1);
        Due.due("drop()", x.drop(), 0);
        Due.refused(x, "drop() of none", 0, x.drop(), Due.STUCK);
    }
}
