/** Promises 2 to 8: SHELVES, ROWS OF NUMBERS, and STITCHES shown. */
public final class ShelvesTest {
    public static void main(String[] args) {
        newRows();
        wrongRows();
        setKeepsLowestBits();
        wrongSets();
        copies();
        wrongCopies();
        elementsRefuseNothing();
        whatShelvesHold();
        shown();
        wrongShows();
        sayings();
        wrongSayings();
        Due.end("ShelvesTest");
    }

    private static void newRows() {
        KnitReader x = new KnitReader();
        Due.due("row(0, 0, 0)", x.row(0, 0, 0), 1);
        Due.due("holds(0)", x.holds(0), 0);
        Due.due("row(7, 4, 40)", x.row(7, 4, 40), 1);
        Due.due("set(7, 39, 1)", x.set(7, 39, 1), 1);
        Due.due("element(7, 39)", x.element(7, 39), 1);
        Due.due("row(7, 3, 40) again", x.row(7, 3, 40), 1);
        for (int i = 0; i < 40; i++) {
            Due.due("a new row's element " + i, x.element(7, i), 0);
        }
        Due.due("row(7, 3, 2): smaller", x.row(7, 3, 2), 1);
        Due.due("set(7, 2, 5) behind it", x.set(7, 2, 5), Due.BAD);
        Due.due("row over a row is of the new sort", x.holds(7), 3);
    }

    private static void wrongRows() {
        KnitReader x = new KnitReader();
        int[][] wrong = {{-1, 0, 1}, {8, 0, 1}, {0, -1, 1}, {0, 5, 1}, {0, 0, -1}, {0, 0, 41},
            {Integer.MAX_VALUE, 0, 1}, {0, Integer.MIN_VALUE, 1}, {0, 0, Integer.MIN_VALUE}, {0, 0, Integer.MAX_VALUE}};
        for (int i = 0; i < wrong.length; i++) {
            Due.refused(x, "row, wrong " + i, i, x.row(wrong[i][0], wrong[i][1], wrong[i][2]), Due.BAD);
        }
        Due.due("nothing was put", x.status(7), 0);
        x.row(3, 2, 5);
        x.set(3, 4, 9);
        x.row(3, 2, 41);
        Due.due("a refused row leaves the old one", x.element(3, 4), 9);
    }

    private static void setKeepsLowestBits() {
        KnitReader x = new KnitReader();
        long[] given = {200, 127, 128, -129, 40000, 32767, 3000000000L, 1L << 40, Long.MIN_VALUE, Long.MAX_VALUE, -1, 256, 0};
        for (int sort = 0; sort < 5; sort++) {
            x.row(sort, sort, given.length);
        }
        for (int i = 0; i < given.length; i++) {
            for (int sort = 0; sort < 5; sort++) {
                Due.due("set(" + sort + ", " + i + ")", x.set(sort, i, given[i]), 1);
            }
            Due.due("bytes of " + given[i], x.element(0, i), (byte) given[i]);
            Due.due("shorts of " + given[i], x.element(1, i), (short) given[i]);
            Due.due("ints of " + given[i], x.element(2, i), (int) given[i]);
            Due.due("longs of " + given[i], x.element(3, i), given[i]);
            Due.due("booleans of " + given[i], x.element(4, i), given[i] == 0 ? 0 : 1);
        }
        Due.due("set(4, 0, 0)", x.set(4, 0, 0), 1);
        Due.due("a boolean set to 0 again", x.element(4, 0), 0);
    }

    private static void wrongSets() {
        KnitReader x = Due.knit(2, "k2");
        x.work(0);
        x.row(0, 2, 3);
        x.show(1, 0, 0);
        Due.refused(x, "set(-1, 0, 1)", 0, x.set(-1, 0, 1), Due.BAD);
        Due.refused(x, "set(8, 0, 1)", 1, x.set(8, 0, 1), Due.BAD);
        Due.refused(x, "set(0, -1, 1)", 2, x.set(0, -1, 1), Due.BAD);
        Due.refused(x, "set(0, 3, 1)", 3, x.set(0, 3, 1), Due.BAD);
        Due.refused(x, "set(0, max, 1)", 4, x.set(0, Integer.MAX_VALUE, 1), Due.BAD);
        Due.refused(x, "set(1, 99, 1): OTHER ahead of BAD i", 0, x.set(1, 99, 1), Due.OTHER);
        Due.refused(x, "set(2, 99, 1): NOTHING ahead of BAD i", 0, x.set(2, 99, 1), Due.NOTHING);
        Due.due("element(0, 0)", x.element(0, 0), 0);
        Due.due("element(0, 2)", x.element(0, 2), 0);
    }

    private static void fill(KnitReader x, int s, int sort, long... values) {
        x.row(s, sort, values.length);
        for (int i = 0; i < values.length; i++) {
            x.set(s, i, values[i]);
        }
    }

    private static void rowIs(KnitReader x, String when, int s, long... values) {
        for (int i = 0; i < values.length; i++) {
            Due.due(when + ": element(" + s + ", " + i + ")", x.element(s, i), values[i]);
        }
    }

    private static void copies() {
        KnitReader x = new KnitReader();
        fill(x, 0, 1, 1, 2, 3, 4, 5);
        fill(x, 1, 1, 9, 9, 9, 9);
        Due.due("copy(0, 1, 1, 2, 2)", x.copy(0, 1, 1, 2, 2), 2);
        rowIs(x, "copied", 1, 9, 9, 2, 3);
        rowIs(x, "copied from", 0, 1, 2, 3, 4, 5);
        Due.due("copy(0, 0, 0, 1, 4): onward in itself", x.copy(0, 0, 0, 1, 4), 4);
        rowIs(x, "onward", 0, 1, 1, 2, 3, 4);
        Due.due("copy(0, 0, 1, 0, 4): back in itself", x.copy(0, 0, 1, 0, 4), 4);
        rowIs(x, "back", 0, 1, 2, 3, 4, 4);
        Due.due("copy of none", x.copy(0, 1, 0, 0, 0), 0);
        Due.due("copy of all", x.copy(1, 0, 0, 1, 4), 4);
        rowIs(x, "all", 0, 1, 9, 9, 2, 3);
        for (int sort = 0; sort < 5; sort++) {
            fill(x, 2, sort, 1, 0, 1);
            fill(x, 3, sort, 0, 0, 0);
            Due.due("copy of sort " + sort, x.copy(2, 3, 0, 0, 3), 3);
            rowIs(x, "sort " + sort, 3, 1, 0, 1);
        }
    }

    private static void wrongCopies() {
        KnitReader x = Due.knit(1, "k");
        x.work(0);
        fill(x, 0, 2, 1, 2, 3);
        fill(x, 1, 2, 4, 5);
        fill(x, 2, 3, 6, 7);
        x.show(3, 0, 0);
        int[][] bad = {{-1, 0, 0, 0, 1}, {0, 8, 0, 0, 1}, {8, 3, 0, 0, 1}, {4, 8, 0, 0, 1}, {0, 1, -1, 0, 1}, {0, 1, 0, -1, 1},
            {0, 1, 0, 0, -1}, {0, 1, 0, 0, 3}, {1, 0, 0, 0, 3}, {0, 1, 2, 0, 2}, {0, 1, 0, 1, 2}, {0, 1, 4, 0, 0}, {0, 1, 0, 4, 0},
            {0, 1, Integer.MAX_VALUE, 0, 1}, {0, 1, 0, Integer.MAX_VALUE, 1}, {0, 1, 1, 1, Integer.MAX_VALUE},
            {0, 1, Integer.MAX_VALUE, Integer.MAX_VALUE, Integer.MAX_VALUE}, {0, 1, 0, 0, Integer.MIN_VALUE}};
        for (int i = 0; i < bad.length; i++) {
            int[] c = bad[i];
            Due.refused(x, "copy, bad " + i, i, x.copy(c[0], c[1], c[2], c[3], c[4]), Due.BAD);
        }
        int[][] other = {{0, 3, 0, 0, 1}, {3, 0, 0, 0, 1}, {3, 4, 0, 0, 1}, {4, 3, 0, 0, 1}, {0, 2, 0, 0, 1}, {2, 0, 99, 0, 1}, {3, 3, 0, 0, 1}};
        for (int i = 0; i < other.length; i++) {
            int[] c = other[i];
            Due.refused(x, "copy, other " + i, i, x.copy(c[0], c[1], c[2], c[3], c[4]), Due.OTHER);
        }
        int[][] nothing = {{0, 4, 0, 0, 1}, {4, 0, 0, 0, 1}, {4, 5, 99, 0, 1}, {4, 4, 0, 0, -1}};
        for (int i = 0; i < nothing.length; i++) {
            int[] c = nothing[i];
            Due.refused(x, "copy, nothing " + i, i, x.copy(c[0], c[1], c[2], c[3], c[4]), Due.NOTHING);
        }
        rowIs(x, "after refusals", 0, 1, 2, 3);
        rowIs(x, "after refusals", 1, 4, 5);
        rowIs(x, "after refusals", 2, 6, 7);
    }

    private static void elementsRefuseNothing() {
        KnitReader x = Due.knit(1, "p");
        x.work(0);
        fill(x, 0, 3, 7, 8);
        x.show(1, 0, 0);
        Due.due("element(0, 1)", x.element(0, 1), 8);
        Due.due("element(0, 2)", x.element(0, 2), 0);
        Due.due("element(0, -1)", x.element(0, -1), 0);
        Due.due("element(1, 0) of a STITCH", x.element(1, 0), 0);
        Due.due("element(2, 0) of NOTHING", x.element(2, 0), 0);
        Due.due("element(-1, 0)", x.element(-1, 0), 0);
        Due.due("element(8, 0)", x.element(8, 0), 0);
        x.row(0, 3, 1);
        Due.due("element(0, 1) of what was there", x.element(0, 1), 0);
        for (int what = 12; what <= 16; what++) {
            Due.due("status(" + what + ")", x.status(what), 0);
        }
    }

    private static void whatShelvesHold() {
        KnitReader x = Due.knit(9, "k,p,sl,yo,m,kt,bo,sd");
        Due.due("work(0)", x.work(0), 7);
        for (int sort = 0; sort < 5; sort++) {
            x.row(sort, sort, sort);
            Due.due("holds a row of sort " + sort, x.holds(sort), sort);
        }
        Due.due("holds(5)", x.holds(5), -1);
        Due.due("holds(-1)", x.holds(-1), -1);
        Due.due("holds(8)", x.holds(8), -1);
        int[] kinds = {4, 5, 6, 7, 8, 9, 11, 12};
        for (int i = 0; i < kinds.length; i++) {
            Due.due("show(5, 0, " + i + ")", x.show(5, 0, i), 1);
            Due.due("holds the STITCH " + i, x.holds(5), 10 + kinds[i]);
        }
        Due.due("holds refuses nothing", x.status(12), 0);
    }

    private static void shown() {
        KnitReader x = Due.knit(3, "k,p,sl");
        x.work(0);
        x.row(0, 2, 4);
        Due.due("show over a row", x.show(0, 0, 2), 1);
        Due.due("holds(0)", x.holds(0), 16);
        Due.due("rip(1)", x.rip(1), 0);
        Due.due("a STITCH stays when its ROW is ripped", x.holds(0), 16);
        Due.due("says(0, 6)", x.says(0, 6), 4);
        Due.due("show(0, NONE, 0)", x.show(0, -1, 0), 1);
        Due.due("NOTHING is held", x.holds(0), -1);
        Due.due("show(1, NONE, 0) on NOTHING", x.show(1, -1, 0), 1);
        Due.due("row over a STITCH", x.row(0, 0, 1), 1);
        Due.due("status(7)", x.status(7), 1);
    }

    private static void wrongShows() {
        KnitReader x = Due.knit(2, "k2", "<k>0");
        x.work(0);
        int[][] bad = {{-1, 0, 0}, {8, 0, 0}, {0, 1, 0}, {0, -2, 0}, {0, 0, -1}, {0, 0, 2}, {8, -1, 0}, {0, 0, Integer.MAX_VALUE}};
        for (int i = 0; i < bad.length; i++) {
            Due.refused(x, "show, bad " + i, i, x.show(bad[i][0], bad[i][1], bad[i][2]), Due.BAD);
        }
        Due.due("nothing was shown", x.status(7), 0);
    }

    /** Each KIND's own STITCH in SHELF 0; rows of the table: KIND, taken for, what it says. */
    private static void sayings() {
        KnitReader x = Due.knit(12, "k,p,sl,yo,m,kt,sk,bo,sd,k");
        Due.due("work(0)", x.work(0), 9);
        int[] kinds = {4, 5, 6, 7, 8, 9, 10, 11, 12};
        int o = Due.OTHER;
        int[][] said = {
            {10, 1, o, o, 5, o, o, o, o, o, o, o, o},
            {11, 1, o, o, o, 4, o, o, o, o, o, o, o},
            {4, 1, o, o, o, o, 4, o, o, o, o, o, o},
            {13, o, 1, o, o, o, o, 7, o, o, o, o, o},
            {9, o, 1, o, o, o, o, o, 8, o, o, o, o},
            {12, o, o, 1, o, o, o, o, o, 10, o, o, o},
            {14, o, o, 1, o, o, o, o, o, o, 9, o, o},
            {15, o, o, 1, o, o, o, o, o, o, o, 0, o},
            {18, o, o, 2, o, o, o, o, o, o, 12, o, 2}};
        for (int i = 0; i < kinds.length; i++) {
            x.show(0, 0, i);
            Due.due("holds the KIND", x.holds(0), 10 + kinds[i]);
            for (int kind = 0; kind <= 12; kind++) {
                Due.due("a STITCH of KIND " + kinds[i] + " taken for " + kind, x.says(0, kind), said[i][kind]);
            }
        }
    }

    private static void wrongSayings() {
        KnitReader x = Due.knit(1, "k");
        x.work(0);
        x.row(0, 0, 1);
        x.show(1, 0, 0);
        Due.refused(x, "says(-1, 0)", 0, x.says(-1, 0), Due.BAD);
        Due.refused(x, "says(8, 0)", 1, x.says(8, 0), Due.BAD);
        Due.refused(x, "says(1, -1)", 2, x.says(1, -1), Due.BAD);
        Due.refused(x, "says(1, 13)", 3, x.says(1, 13), Due.BAD);
        Due.refused(x, "says(2, 13): BAD ahead of NOTHING", 4, x.says(2, 13), Due.BAD);
        Due.refused(x, "says(0, 13): BAD ahead of OTHER", 5, x.says(0, 13), Due.BAD);
        Due.refused(x, "says(0, 0) of a row", 0, x.says(0, 0), Due.OTHER);
        Due.refused(x, "says(1, 5) of a KNIT", 1, x.says(1, 5), Due.OTHER);
        Due.refused(x, "says(2, 0) of NOTHING", 0, x.says(2, 0), Due.NOTHING);
    }
}
