/** SHELVES and promises 2 to 8: a test for each sentence that names a bound. */
public final class ShelfBoundsTest {
    private static final int[] FAR_OFF = {-1, 8, 9, Integer.MAX_VALUE, Integer.MIN_VALUE};

    public static void main(String[] args) {
        shelvesAre0To7();
        sortsAre0To4();
        elementsAre0To40();
        newElementsAre0();
        rowOver();
        bytesKeepTheirLowestBits();
        shortsKeepTheirLowestBits();
        intsKeepTheirLowestBits();
        longsKeepAll();
        booleansKeepWhetherNot0();
        setTakes0ToTheLast();
        setOnNoElements();
        setOnWhatWasSmaller();
        setRefusalsInOrder();
        copyOfNoneAndOfAll();
        copyInItself();
        copySpansEndWhereTheRowEnds();
        copyKeepsSorts();
        copyRefusalsInOrder();
        refusedCopyCopiesNothing();
        elementAnswers0();
        holdsAnswersNone();
        showTakes0ToTheLast();
        showNothing();
        showRefusals();
        shownStitchStays();
        saysTakesKinds0To12();
        saysTakenForAnother();
        saysRefusalsInOrder();
        Due.end("ShelfBoundsTest");
    }

    /** A KNIT in SHELF 6, a ROW OF NUMBERS (longs, 3) in SHELF 5, else NOTHING. */
    private static KnitReader scene() {
        KnitReader x = Due.knit(3, "k,p,sl");
        x.work(0);
        x.show(6, 0, 0);
        x.row(5, 3, 3);
        return x;
    }

    private static void shelvesAre0To7() {
        KnitReader x = new KnitReader();
        for (int s = 0; s < 8; s++) {
            Due.due("holds(" + s + ") at first", x.holds(s), -1);
            Due.due("status(7)", x.status(7), s);
            Due.due("row(" + s + ", 2, 1)", x.row(s, 2, 1), 1);
            Due.due("set(" + s + ", 0, 5)", x.set(s, 0, 5 + s), 1);
        }
        for (int s = 0; s < 8; s++) {
            Due.due("element(" + s + ", 0)", x.element(s, 0), 5 + s);
        }
        Due.due("status(7)", x.status(7), 8);
        for (int i = 0; i < FAR_OFF.length; i++) {
            Due.refused(x, "row(" + FAR_OFF[i] + ", 2, 1)", i, x.row(FAR_OFF[i], 2, 1), Due.BAD);
        }
        Due.due("status(7)", x.status(7), 8);
    }

    private static void sortsAre0To4() {
        KnitReader x = new KnitReader();
        for (int sort = 0; sort < 5; sort++) {
            Due.due("row(0, " + sort + ", 1)", x.row(0, sort, 1), 1);
            Due.due("holds(0)", x.holds(0), sort);
        }
        int[] wrong = {-1, 5, 10, Integer.MAX_VALUE, Integer.MIN_VALUE};
        for (int i = 0; i < wrong.length; i++) {
            Due.refused(x, "row(0, " + wrong[i] + ", 1)", i, x.row(0, wrong[i], 1), Due.BAD);
        }
        Due.due("holds(0) as ahead", x.holds(0), 4);
    }

    private static void elementsAre0To40() {
        KnitReader x = new KnitReader();
        for (int n = 0; n <= 40; n++) {
            Due.due("row(0, 2, " + n + ")", x.row(0, 2, n), 1);
            Due.due("no element " + n, x.set(0, n, 1), Due.BAD);
            Due.due("an element " + (n - 1), x.set(0, n - 1, 1), n == 0 ? Due.BAD : 1);
        }
        int bad = x.status(12);
        int[] wrong = {-1, 41, 42, Integer.MAX_VALUE, Integer.MIN_VALUE};
        for (int i = 0; i < wrong.length; i++) {
            Due.refused(x, "row(0, 2, " + wrong[i] + ")", bad + i, x.row(0, 2, wrong[i]), Due.BAD);
        }
        Due.due("the old one stays", x.element(0, 39), 1);
    }

    /** 0, or not so, at first: what stood there ahead is gone. */
    private static void newElementsAre0() {
        KnitReader x = new KnitReader();
        for (int sort = 0; sort < 5; sort++) {
            x.row(0, sort, 40);
            for (int i = 0; i < 40; i++) {
                Due.due("element(0, " + i + ")", x.element(0, i), 0);
                x.set(0, i, -1);
            }
        }
        x.row(0, 0, 1);
        x.row(0, 0, 40);
        Due.due("element(0, 39) behind a smaller one", x.element(0, 39), 0);
    }

    private static void rowOver() {
        KnitReader x = scene();
        Due.due("row over a STITCH", x.row(6, 0, 0), 1);
        Due.due("holds(6)", x.holds(6), 0);
        Due.due("row over a row", x.row(5, 4, 2), 1);
        Due.due("holds(5)", x.holds(5), 4);
        Due.due("status(7)", x.status(7), 2);
    }

    private static void kept(int sort, long... givenAndTold) {
        KnitReader x = new KnitReader();
        x.row(0, sort, 1);
        for (int i = 0; i < givenAndTold.length; i += 2) {
            Due.due("set(0, 0, " + givenAndTold[i] + ")", x.set(0, 0, givenAndTold[i]), 1);
            Due.due("sort " + sort + " of " + givenAndTold[i], x.element(0, 0), givenAndTold[i + 1]);
        }
    }

    private static void bytesKeepTheirLowestBits() {
        kept(0, 127, 127, 128, -128, 255, -1, 256, 0, 257, 1, -1, -1, -128, -128, -129, 127, -256, 0, -257, -1,
            Long.MAX_VALUE, -1, Long.MIN_VALUE, 0, 1L << 32, 0, (1L << 40) + 200, -56);
    }

    private static void shortsKeepTheirLowestBits() {
        kept(1, 255, 255, 32767, 32767, 32768, -32768, 65535, -1, 65536, 0, 65537, 1, -32768, -32768, -32769, 32767,
            -65536, 0, Long.MAX_VALUE, -1, Long.MIN_VALUE, 0, (1L << 33) + 40000, -25536);
    }

    private static void intsKeepTheirLowestBits() {
        kept(2, 65535, 65535, 2147483647L, 2147483647L, 2147483648L, -2147483648L, 4294967295L, -1, 4294967296L, 0,
            4294967297L, 1, -2147483648L, -2147483648L, -2147483649L, 2147483647L, Long.MAX_VALUE, -1, Long.MIN_VALUE, 0);
    }

    private static void longsKeepAll() {
        kept(3, Long.MAX_VALUE, Long.MAX_VALUE, Long.MIN_VALUE, Long.MIN_VALUE, 2147483648L, 2147483648L, -1, -1, 0, 0,
            4294967296L, 4294967296L);
    }

    /** Of booleans: whether it is not 0; told they are numbers. */
    private static void booleansKeepWhetherNot0() {
        kept(4, 0, 0, 1, 1, 0, 0, 2, 1, -1, 1, 256, 1, 0, 0, 1L << 32, 1, Long.MIN_VALUE, 1, Long.MAX_VALUE, 1);
    }

    private static void setTakes0ToTheLast() {
        KnitReader x = new KnitReader();
        x.row(0, 3, 40);
        for (int i = 0; i < 40; i++) {
            Due.due("set(0, " + i + ")", x.set(0, i, 100 + i), 1);
        }
        for (int i = 0; i < 40; i++) {
            Due.due("element(0, " + i + ")", x.element(0, i), 100 + i);
        }
        int[] wrong = {-1, 40, 41, Integer.MAX_VALUE, Integer.MIN_VALUE};
        for (int i = 0; i < wrong.length; i++) {
            Due.refused(x, "set(0, " + wrong[i] + ", 1)", i, x.set(0, wrong[i], 1), Due.BAD);
        }
    }

    private static void setOnNoElements() {
        KnitReader x = new KnitReader();
        x.row(0, 0, 0);
        Due.refused(x, "set(0, 0, 1) of none", 0, x.set(0, 0, 1), Due.BAD);
        Due.due("it holds a ROW OF NUMBERS", x.holds(0), 0);
        Due.due("and counts", x.status(7), 1);
    }

    /** Places that an earlier, larger one had. */
    private static void setOnWhatWasSmaller() {
        KnitReader x = new KnitReader();
        x.row(0, 2, 9);
        x.row(0, 2, 3);
        for (int i = 3; i < 9; i++) {
            Due.refused(x, "set(0, " + i + ", 1)", i - 3, x.set(0, i, 1), Due.BAD);
            Due.due("element(0, " + i + ")", x.element(0, i), 0);
        }
    }

    /** BAD SHELF; OTHER; NOTHING; BAD i. */
    private static void setRefusalsInOrder() {
        KnitReader x = scene();
        for (int i = 0; i < FAR_OFF.length; i++) {
            Due.refused(x, "set(" + FAR_OFF[i] + ", -1, 1)", i, x.set(FAR_OFF[i], -1, 1), Due.BAD);
        }
        Due.refused(x, "set(6, 0, 1) on a STITCH", 0, x.set(6, 0, 1), Due.OTHER);
        Due.refused(x, "set(6, -1, 1) on a STITCH", 1, x.set(6, -1, 1), Due.OTHER);
        Due.refused(x, "set(0, 0, 1) on NOTHING", 0, x.set(0, 0, 1), Due.NOTHING);
        Due.refused(x, "set(0, -1, 1) on NOTHING", 1, x.set(0, -1, 1), Due.NOTHING);
        Due.refused(x, "set(5, 3, 1)", FAR_OFF.length, x.set(5, 3, 1), Due.BAD);
        Due.due("set(5, 2, 1)", x.set(5, 2, 1), 1);
    }

    private static KnitReader twoRows(int first, int second) {
        KnitReader x = new KnitReader();
        x.row(0, 2, first);
        x.row(1, 2, second);
        for (int i = 0; i < first; i++) {
            x.set(0, i, 10 + i);
        }
        for (int i = 0; i < second; i++) {
            x.set(1, i, 50 + i);
        }
        return x;
    }

    private static void elementsAre(KnitReader x, String when, int s, long... due) {
        for (int i = 0; i < due.length; i++) {
            Due.due(when + ": element(" + s + ", " + i + ")", x.element(s, i), due[i]);
        }
    }

    private static void copyOfNoneAndOfAll() {
        KnitReader x = twoRows(4, 4);
        Due.due("copy of none", x.copy(0, 1, 0, 0, 0), 0);
        elementsAre(x, "none", 1, 50, 51, 52, 53);
        Due.due("copy of all", x.copy(0, 1, 0, 0, 4), 4);
        elementsAre(x, "all", 1, 10, 11, 12, 13);
        elementsAre(x, "where it came from", 0, 10, 11, 12, 13);
        KnitReader y = twoRows(40, 40);
        Due.due("copy of 40", y.copy(0, 1, 0, 0, 40), 40);
        Due.due("the last", y.element(1, 39), 49);
        KnitReader z = twoRows(0, 0);
        Due.due("copy of none of none", z.copy(0, 1, 0, 0, 0), 0);
        Due.refused(z, "copy of one of none", 0, z.copy(0, 1, 0, 0, 1), Due.BAD);
    }

    /** As they were: what is copied in itself isn't copied on. */
    private static void copyInItself() {
        KnitReader x = twoRows(6, 0);
        Due.due("onward", x.copy(0, 0, 0, 2, 4), 4);
        elementsAre(x, "onward", 0, 10, 11, 10, 11, 12, 13);
        KnitReader y = twoRows(6, 0);
        Due.due("back", y.copy(0, 0, 2, 0, 4), 4);
        elementsAre(y, "back", 0, 12, 13, 14, 15, 14, 15);
        KnitReader z = twoRows(3, 0);
        Due.due("onto itself", z.copy(0, 0, 0, 0, 3), 3);
        elementsAre(z, "onto itself", 0, 10, 11, 12);
    }

    private static void copySpansEndWhereTheRowEnds() {
        KnitReader x = twoRows(5, 3);
        int bad = 0;
        for (int i = -1; i <= 6; i++) {
            for (int j = -1; j <= 4; j++) {
                for (int n = 1; n <= 6; n++) {
                    boolean may = i >= 0 && j >= 0 && i + n <= 5 && j + n <= 3;
                    Due.due("copy(0, 1, " + i + ", " + j + ", " + n + ")", x.copy(0, 1, i, j, n), may ? n : Due.BAD);
                    bad += may ? 0 : 1;
                }
            }
        }
        Due.due("BAD", x.status(12), bad);
        int most = Integer.MAX_VALUE;
        int least = Integer.MIN_VALUE;
        int[][] far = {{most, 0, 1}, {0, most, 1}, {1, 1, most}, {most, most, most}, {most, 0, least}, {0, 0, -1}, {5, 3, -1},
            {least, 0, 1}, {0, least, 1}, {0, 0, least}, {least, least, least}, {-1, 0, 0}, {0, -1, 0}, {6, 0, 0}, {0, 4, 0}};
        for (int i = 0; i < far.length; i++) {
            Due.refused(x, "copy, far off " + i, bad + i, x.copy(0, 1, far[i][0], far[i][1], far[i][2]), Due.BAD);
        }
    }

    private static void copyKeepsSorts() {
        for (int sort = 0; sort < 5; sort++) {
            for (int other = 0; other < 5; other++) {
                KnitReader x = new KnitReader();
                x.row(0, sort, 1);
                x.row(1, other, 1);
                x.set(0, 0, -1);
                Due.due("copy of sort " + sort + " to " + other, x.copy(0, 1, 0, 0, 1), sort == other ? 1 : Due.OTHER);
                Due.due("element(1, 0)", x.element(1, 0), sort != other ? 0 : sort == 4 ? 1 : -1);
            }
        }
    }

    /** BAD SHELVES; OTHER (also two of unlike SORTS, if both hold something); NOTHING; BAD the others. */
    private static void copyRefusalsInOrder() {
        KnitReader x = scene();
        x.row(4, 2, 3);
        int bad = 0;
        for (int s : FAR_OFF) {
            Due.refused(x, "from no SHELF to a STITCH", bad++, x.copy(s, 6, 0, 0, 1), Due.BAD);
            Due.refused(x, "from a STITCH to no SHELF", bad++, x.copy(6, s, 0, 0, 1), Due.BAD);
            Due.refused(x, "from NOTHING to no SHELF", bad++, x.copy(0, s, 0, 0, 1), Due.BAD);
        }
        int[][] other = {{6, 6}, {6, 0}, {0, 6}, {6, 5}, {5, 6}, {4, 5}, {5, 4}};
        for (int i = 0; i < other.length; i++) {
            Due.refused(x, "OTHER ahead of NOTHING and BAD, " + i, i, x.copy(other[i][0], other[i][1], -1, -1, -1), Due.OTHER);
        }
        int[][] nothing = {{0, 0}, {0, 1}, {0, 5}, {5, 0}};
        for (int i = 0; i < nothing.length; i++) {
            Due.refused(x, "NOTHING ahead of BAD, " + i, i, x.copy(nothing[i][0], nothing[i][1], -1, -1, -1), Due.NOTHING);
        }
        Due.refused(x, "BAD at last", bad, x.copy(5, 5, -1, 0, 1), Due.BAD);
    }

    private static void refusedCopyCopiesNothing() {
        KnitReader x = twoRows(4, 4);
        x.copy(0, 1, 2, 0, 3);
        x.copy(0, 1, 0, 2, 3);
        x.copy(0, 1, 0, 0, 5);
        x.copy(0, 1, 0, 0, -1);
        elementsAre(x, "refused", 0, 10, 11, 12, 13);
        elementsAre(x, "refused", 1, 50, 51, 52, 53);
    }

    /** 0: none, no such ROW (nothing is refused). */
    private static void elementAnswers0() {
        KnitReader x = scene();
        x.set(5, 0, 7);
        x.set(5, 2, 9);
        Due.due("element(5, 0)", x.element(5, 0), 7);
        Due.due("element(5, 2)", x.element(5, 2), 9);
        int[] places = {-1, 3, 39, 40, Integer.MAX_VALUE, Integer.MIN_VALUE};
        for (int i : places) {
            Due.due("element(5, " + i + ")", x.element(5, i), 0);
        }
        Due.due("of a STITCH", x.element(6, 0), 0);
        Due.due("of NOTHING", x.element(0, 0), 0);
        for (int s : FAR_OFF) {
            Due.due("element(" + s + ", 0)", x.element(s, 0), 0);
        }
        x.show(5, 0, 1);
        Due.due("of a STITCH where a row was", x.element(5, 0), 0);
        x.show(5, -1, 0);
        Due.due("of NOTHING where a row was", x.element(5, 0), 0);
        for (int what = 12; what <= 16; what++) {
            Due.due("status(" + what + ")", x.status(what), 0);
        }
    }

    private static void holdsAnswersNone() {
        KnitReader x = scene();
        for (int s : FAR_OFF) {
            Due.due("holds(" + s + ")", x.holds(s), -1);
        }
        Due.due("holds(0)", x.holds(0), -1);
        Due.due("holds(7)", x.holds(7), -1);
        Due.due("holds(6)", x.holds(6), 14);
        Due.due("nothing refused", x.status(12), 0);
    }

    /** The i-th STITCH of a WORKED ROW (0 the first that was worked). */
    private static void showTakes0ToTheLast() {
        KnitReader x = Due.knit(3, "k,p,sl", "sl3");
        x.work(0);
        x.work(1);
        for (int i = 0; i < 3; i++) {
            Due.due("show(7, 0, " + i + ")", x.show(7, 0, i), 1);
            Due.due("holds(7)", x.holds(7), 14 + i);
        }
        Due.due("show(0, 1, 2)", x.show(0, 1, 2), 1);
        Due.due("holds(0)", x.holds(0), 16);
    }

    private static void showNothing() {
        KnitReader x = scene();
        Due.due("status(7)", x.status(7), 2);
        Due.due("show(6, NONE, 0) on a STITCH", x.show(6, -1, 0), 1);
        Due.due("status(7)", x.status(7), 1);
        Due.due("show(5, NONE, 0) on a row", x.show(5, -1, 0), 1);
        Due.due("status(7)", x.status(7), 0);
        Due.due("show(5, NONE, 0) on NOTHING", x.show(5, -1, 0), 1);
        Due.due("holds(5)", x.holds(5), -1);
        Due.due("set(5, 0, 1)", x.set(5, 0, 1), Due.NOTHING);
        KnitReader y = new KnitReader();
        Due.due("with nothing WORKED", y.show(0, -1, 0), 1);
    }

    private static void showRefusals() {
        KnitReader x = Due.knit(3, "k3", "k2,bo", "<k>0");
        x.run(0, 2, 1);
        x.rip(1);
        int refused = 0;
        for (int s : FAR_OFF) {
            Due.refused(x, "show(" + s + ", 0, 0)", refused++, x.show(s, 0, 0), Due.BAD);
            Due.refused(x, "show(" + s + ", NONE, 0)", refused++, x.show(s, -1, 0), Due.BAD);
        }
        int[] worked = {-2, 2, 3, 49, 50, Integer.MAX_VALUE, Integer.MIN_VALUE};
        for (int w : worked) {
            Due.refused(x, "show(0, " + w + ", 0)", refused++, x.show(0, w, 0), Due.BAD);
        }
        int[] places = {-1, 3, 4, 200, Integer.MAX_VALUE, Integer.MIN_VALUE};
        for (int i : places) {
            Due.refused(x, "show(0, 0, " + i + ")", refused++, x.show(0, 0, i), Due.BAD);
        }
        Due.due("SHELVES hold NOTHING", x.status(7), 0);
        x.row(0, 0, 1);
        x.show(0, 0, 3);
        Due.due("a refused one leaves what is there", x.holds(0), 0);
    }

    private static void shownStitchStays() {
        KnitReader x = scene();
        x.rip(1);
        x.drop();
        Due.due("holds(6) behind rip and drop", x.holds(6), 14);
        Due.due("says(6, 0)", x.says(6, 0), 10);
        Due.due("show of what is no more", x.show(0, 0, 0), Due.BAD);
    }

    private static void saysTakesKinds0To12() {
        KnitReader x = Due.knit(3, "sd");
        x.work(0);
        x.show(0, 0, 0);
        Due.due("taken for KIND 0", x.says(0, 0), 18);
        Due.due("taken for KIND 12", x.says(0, 12), 2);
        int[] wrong = {-1, 13, 14, 22, Integer.MAX_VALUE, Integer.MIN_VALUE};
        for (int i = 0; i < wrong.length; i++) {
            Due.refused(x, "says(0, " + wrong[i] + ")", i, x.says(0, wrong[i]), Due.BAD);
        }
    }

    /** Of no such KIND nor of one under it: a LEFT is no DOUBLE, but a DOUBLE is a LEFT. */
    private static void saysTakenForAnother() {
        KnitReader x = Due.knit(8, "sk,sd,k,bo,sl,m");
        x.work(0);
        for (int i = 0; i < 6; i++) {
            x.show(i, 0, i);
        }
        Due.refused(x, "a LEFT for a DOUBLE", 0, x.says(0, 12), Due.OTHER);
        Due.due("a LEFT for a LEFT", x.says(0, 10), 9);
        Due.due("a DOUBLE for a LEFT", x.says(1, 10), 12);
        Due.refused(x, "a DOUBLE for a RIGHT", 1, x.says(1, 9), Due.OTHER);
        Due.refused(x, "a KNIT for a PURL", 2, x.says(2, 5), Due.OTHER);
        Due.refused(x, "a KNIT for a GAIN", 3, x.says(2, 2), Due.OTHER);
        Due.due("an OFF for an OFF", x.says(3, 11), 0);
        Due.due("an OFF for a LOSS", x.says(3, 3), 1);
        Due.due("a DOUBLE for a LOSS", x.says(1, 3), 2);
        Due.due("a KNIT for a PLAIN", x.says(2, 1), 1);
        Due.due("a SLIP for a PLAIN", x.says(4, 1), 1);
        Due.due("a SLIP for a SLIP", x.says(4, 6), 4);
        Due.due("a LIFT for a GAIN", x.says(5, 2), 1);
        Due.due("a LIFT for a LIFT", x.says(5, 8), 8);
        Due.refused(x, "a LIFT for an OVER", 4, x.says(5, 7), Due.OTHER);
    }

    /** BAD SHELF, KIND; OTHER; NOTHING. */
    private static void saysRefusalsInOrder() {
        KnitReader x = scene();
        int bad = 0;
        for (int s : FAR_OFF) {
            Due.refused(x, "says(" + s + ", 0)", bad++, x.says(s, 0), Due.BAD);
        }
        Due.refused(x, "BAD KIND of a row", bad++, x.says(5, 13), Due.BAD);
        Due.refused(x, "BAD KIND of NOTHING", bad++, x.says(0, -1), Due.BAD);
        Due.refused(x, "BAD KIND of a STITCH", bad++, x.says(6, 13), Due.BAD);
        Due.refused(x, "a row", 0, x.says(5, 0), Due.OTHER);
        Due.refused(x, "a row of any KIND", 1, x.says(5, 12), Due.OTHER);
        Due.refused(x, "NOTHING", 0, x.says(0, 0), Due.NOTHING);
        Due.refused(x, "NOTHING of any KIND", 1, x.says(0, 12), Due.NOTHING);
    }
}
