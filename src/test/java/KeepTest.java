/** Promises 1 and 40 to 44: a new object, DAYS, SEED, what is kept, and status. */
public final class KeepTest {
    public static void main(String[] args) {
        newObject();
        days();
        daysRipWhatCannotBe();
        daysWhenFilled();
        wrongDays();
        seeds();
        kept();
        notKept();
        sidesKept();
        rowsKept();
        backTwice();
        nothingKept();
        statuses();
        Due.end("KeepTest");
    }

    private static void newObject() {
        KnitReader x = new KnitReader();
        for (int what = 0; what <= 7; what++) {
            Due.due("status(" + what + ")", x.status(what), what == 6 ? 1 : 0);
        }
        for (int what = 12; what <= 16; what++) {
            Due.due("status(" + what + ")", x.status(what), 0);
        }
        for (int s = 0; s < 8; s++) {
            Due.due("holds(" + s + ")", x.holds(s), -1);
        }
        Due.due("NONE", KnitReader.NONE, -1);
        Due.due("yarn()", x.yarn(), 0);
        Due.due("many(0)", x.many(0), 0);
        Due.due("causes()", x.causes(), 0);
        Due.due("least()", x.least(), 0);
        Due.due("wipe()", x.wipe(), 0);
        Due.due("drop()", x.drop(), Due.STUCK);
        Due.due("back()", x.back(), Due.STUCK);
        Due.due("chart(0, 0)", x.chart(0, 0), Due.BAD);
        Due.due("text(0, 0)", x.text(0, 0), Due.BAD);
        Due.due("origin(0)", x.origin(0), -92 - Due.FAR);
        Due.due("mode(0)", x.mode(0), 0);
    }

    /** The draws as the document tells them. */
    private static int next(int seed) {
        return (int) (seed * 1103515245L + 12345);
    }

    private static int drawn(int seed, int below) {
        return (int) ((seed & 0xffffffffL) / 65536 % below);
    }

    private static void days() {
        KnitReader x = Due.knit(5, "k5", "p5", "sl5");
        int seed = 1;
        Due.due("days(40)", x.days(40), 40);
        for (int i = 0; i < 40; i++) {
            seed = next(seed);
            Due.due("ROW of the day " + i, x.workedOf(i, 5), drawn(seed, 3));
        }
        Due.due("status(6)", x.status(6), seed);
        Due.due("seed(-7)", x.seed(-7), seed);
        Due.due("days(10)", x.days(10), 10);
        seed = -7;
        for (int i = 40; i < 50; i++) {
            seed = next(seed);
            Due.due("ROW of the day " + i, x.workedOf(i, 5), drawn(seed, 3));
        }
    }

    private static void daysRipWhatCannotBe() {
        KnitReader x = Due.knit(9, "kt,<k>0", "<k>7,k7", "k9");
        int seed = 1;
        int needle = 9;
        int worked = 0;
        int[] ahead = new int[61];
        int rows = 0;
        for (int i = 0; i < 60; i++) {
            seed = next(seed);
            int row = drawn(seed, 3);
            boolean can = row == 0 ? needle >= 2 : row == 1 ? needle >= 7 : needle == 9;
            if (can) {
                ahead[rows++] = needle;
                needle -= row == 0 ? 1 : 0;
                worked++;
            } else if (rows > 0) {
                needle = ahead[--rows];
            }
        }
        Due.due("days(60)", x.days(60), worked);
        Due.due("status(1)", x.status(1), rows);
        Due.due("status(2)", x.status(2), needle);
        Due.due("status(3)", x.status(3), rows % 2);
        Due.due("no WHY", x.causes(), 0);
        Due.due("no refusal", x.status(15), 0);
        KnitReader y = Due.knit(5, "k4");
        Due.due("none to be RIPPED BACK", y.days(5), 0);
        Due.due("status(1)", y.status(1), 0);
        Due.due("status(2)", y.status(2), 5);
        Due.due("SEED has gone on", y.status(6), next(next(next(next(next(1))))));
    }

    private static void daysWhenFilled() {
        KnitReader x = Due.knit(5, "k5");
        Due.due("days(53): 50, RIPPED, one, RIPPED", x.days(53), 51);
        Due.due("status(1)", x.status(1), 49);
        Due.due("days(1)", x.days(1), 1);
        Due.due("days(1)", x.days(1), 0);
        Due.due("status(1)", x.status(1), 49);
    }

    private static void wrongDays() {
        KnitReader x = new KnitReader();
        Due.refused(x, "days(0)", 0, x.days(0), Due.BAD);
        Due.refused(x, "days(61)", 1, x.days(61), Due.BAD);
        Due.refused(x, "days(-1)", 2, x.days(-1), Due.BAD);
        Due.refused(x, "days(1) without ROWS", 0, x.days(1), Due.STUCK);
        Due.due("SEED", x.status(6), 1);
    }

    private static void seeds() {
        KnitReader x = new KnitReader();
        Due.due("seed(0)", x.seed(0), 1);
        Due.due("seed(max)", x.seed(Integer.MAX_VALUE), 0);
        Due.due("seed(min)", x.seed(Integer.MIN_VALUE), Integer.MAX_VALUE);
        Due.due("status(6)", x.status(6), Integer.MIN_VALUE);
    }

    private static void kept() {
        KnitReader x = Due.knit(6, "k6", "k4,kt", "k5");
        x.run(0, 1, 1);
        x.seed(77);
        Due.due("image()", x.image(), 1);
        x.rip(2);
        x.work(0);
        x.rip(1);
        x.mode(1);
        x.work(0);
        x.work(0);
        x.seed(5);
        x.drop();
        x.drop();
        Due.tell(x, "p9");
        Due.due("back()", x.back(), 1);
        int[] due = {3, 2, 5, 0, 0, 0, 77};
        for (int what = 0; what < due.length; what++) {
            Due.due("status(" + what + ")", x.status(what), due[what]);
        }
        Due.due("ROW 1 is again", x.text(1, 0), 'k');
        Due.due("ROW 1 is again", x.lineOf(1, 2), 5);
        Due.due("ROW 2 is again", x.text(2, 1), '5');
        Due.due("WORKED ROW 1 is again", x.stitch(1, 4, 0), 9);
        Due.due("its SIDE", x.workedOf(1, 0), 1);
        Due.due("its ROW", x.workedOf(1, 5), 1);
        Due.due("WORKED ROW 0 is again", x.workedOf(0, 1), 6);
        Due.due("origin(0)", x.origin(0), 3);
        Due.due("work(2)", x.work(2), 5);
        Due.due("rip(3)", x.rip(3), 0);
        Due.due("status(2)", x.status(2), 6);
    }

    private static void notKept() {
        KnitReader x = Due.knit(3, "k3", "k4");
        x.feed('k');
        x.row(0, 2, 2);
        x.set(0, 1, 8);
        x.image();
        x.feed('2');
        x.set(0, 1, 9);
        x.row(1, 0, 1);
        x.work(1);
        Due.due("cast(0)", x.cast(0), Due.BAD);
        Due.due("back()", x.back(), 1);
        Due.due("THE TAPE", x.status(5), 2);
        Due.due("SHELVES", x.element(0, 1), 9);
        Due.due("SHELVES", x.status(7), 2);
        Due.whyIs(x, "WHY", 11, 1, 3, 1, 0, 0);
        Due.due("BAD", x.status(12), 1);
        Due.due("STUCK", x.status(15), 1);
        Due.due("line()", x.line(), 2);
        Due.due("text(2, 1)", x.text(2, 1), '2');
    }

    private static void sidesKept() {
        KnitReader x = Due.knit(4, "k4");
        x.work(0);
        x.image();
        x.work(0);
        Due.due("back() from RIGHT", x.back(), 1);
        Due.due("status(3)", x.status(3), 1);
        x.work(0);
        Due.due("SIDE of what is WORKED then", x.workedOf(1, 0), 1);
        x.image();
        x.work(0);
        Due.due("back() from WRONG", x.back(), 1);
        Due.due("status(3)", x.status(3), 0);
    }

    private static void rowsKept() {
        KnitReader x = Due.knit(0, "k4", "p5,<k>0", "sl");
        x.image();
        x.drop();
        x.drop();
        x.drop();
        Due.tell(x, "yo");
        Due.tell(x, "m");
        x.back();
        Due.due("ROWS", x.status(0), 3);
        Due.due("ROW 0", x.text(0, 0), 'k');
        Due.due("ROW 1", x.text(1, 0), 'p');
        Due.due("ROW 1", x.lineOf(1, 3), 1);
        Due.due("ROW 2", x.text(2, 0), 's');
        Due.due("least()", x.least(), -1);
        for (int i = 3; i < 20; i++) {
            Due.tell(x, "k" + i);
        }
        x.image();
        for (int i = 0; i < 20; i++) {
            x.drop();
        }
        x.back();
        for (int i = 3; i < 20; i++) {
            Due.due("would(" + i + ", " + i + ", 0)", x.would(i, i, 0), i);
        }
    }

    private static void backTwice() {
        KnitReader x = Due.knit(4, "k4", "p4");
        x.work(0);
        x.image();
        x.work(1);
        x.back();
        x.work(1);
        x.work(1);
        Due.due("back() again", x.back(), 1);
        Due.due("status(1)", x.status(1), 1);
        x.rip(1);
        x.work(1);
        Due.due("what is worked anew", x.chart(0, 0), 5);
        x.back();
        Due.due("what was kept", x.chart(0, 0), 4);
        x.work(1);
        Due.due("image() anew", x.image(), 1);
        x.rip(2);
        x.back();
        Due.due("status(1)", x.status(1), 2);
    }

    private static void nothingKept() {
        KnitReader x = Due.knit(4, "k4");
        Due.refused(x, "back()", 0, x.back(), Due.STUCK);
        Due.due("status(2)", x.status(2), 4);
        KnitReader y = new KnitReader();
        y.image();
        y.cast(4);
        y.mode(1);
        Due.due("back() to what was new", y.back(), 1);
        Due.due("status(2)", y.status(2), 0);
        Due.due("status(4)", y.status(4), 0);
    }

    private static void statuses() {
        KnitReader x = Due.knit(5, "k5", "k4,yo,k");
        x.work(1);
        x.seed(9);
        x.feed('a');
        x.feed('b');
        x.row(2, 0, 0);
        x.show(7, 0, 0);
        int[] due = {2, 1, 6, 1, 0, 2, 9, 2};
        for (int what = 0; what < due.length; what++) {
            Due.due("status(" + what + ")", x.status(what), due[what]);
        }
        x.set(0, 0, 0);
        x.set(7, 0, 0);
        x.set(7, 0, 0);
        x.work(0);
        x.work(0);
        x.work(0);
        for (int i = 0; i < 249; i++) {
            x.feed('k');
        }
        x.feed('k');
        Due.due("BAD", x.status(12), 0);
        Due.due("OTHER", x.status(13), 2);
        Due.due("NOTHING", x.status(14), 1);
        Due.due("STUCK", x.status(15), 3);
        Due.due("FULL", x.status(16), 2);
        int[] none = {-1, 8, 9, 10, 11, 17, -92, Integer.MAX_VALUE, Integer.MIN_VALUE};
        for (int what : none) {
            Due.due("status(" + what + ")", x.status(what), -1);
        }
        Due.due("status refuses nothing", x.status(12), 0);
    }
}
