import java.math.BigInteger;

/** Promises 1 and 40 to 44, DRAWS, and what is kept: a test for each sentence that names a bound. */
public final class KeepBoundsTest {
    private static final BigInteger TURN = BigInteger.ONE.shiftLeft(32);
    private static final BigInteger FACTOR = BigInteger.valueOf(1103515245);

    public static void main(String[] args) {
        newObject();
        newObjectRefuses();
        seedWraps();
        upperBitsWithoutSign();
        drawBelowOne();
        drawBelowEach();
        drawIsOfTheRowsNow();
        daysBounds();
        daysAreStuckWithoutRows();
        dayRipsOneIfThereIsOne();
        dayWhenFilled();
        daysCountWhatWasWorked();
        daysGoOnAsOne();
        seedTakesAnything();
        imageOfNothing();
        imageOfTheFullest();
        imageKeepsWhatItSays();
        imageKeepsSides();
        imageKeepsNotTheRest();
        imageAgain();
        imageStaysBehindBack();
        backIsStuck();
        statusBounds();
        statusCountsShelves();
        refusalsAreCounted();
        the512thCall();
        Due.end("KeepBoundsTest");
    }

    private static void newObject() {
        KnitReader x = new KnitReader();
        int[] due = {0, 0, 0, 0, 0, 0, 1, 0};
        for (int what = 0; what < due.length; what++) {
            Due.due("status(" + what + ")", x.status(what), due[what]);
        }
        for (int what = 12; what <= 16; what++) {
            Due.due("status(" + what + ")", x.status(what), 0);
        }
        for (int s = -1; s <= 8; s++) {
            Due.due("holds(" + s + ")", x.holds(s), -1);
        }
        Due.due("causes()", x.causes(), 0);
        Due.due("yarn()", x.yarn(), 0);
        Due.due("least()", x.least(), 0);
        Due.due("wipe()", x.wipe(), 0);
        Due.due("the constant", KnitReader.NONE, -1);
    }

    private static void newObjectRefuses() {
        KnitReader x = new KnitReader();
        int bad = 0;
        Due.refused(x, "work(0)", bad++, x.work(0), Due.BAD);
        Due.refused(x, "run(0, 0, 1)", bad++, x.run(0, 0, 1), Due.BAD);
        Due.refused(x, "rip(1)", bad++, x.rip(1), Due.BAD);
        Due.refused(x, "why(0, 0)", bad++, x.why(0, 0), Due.BAD);
        Due.refused(x, "lineOf(0, 0)", bad++, x.lineOf(0, 0), Due.BAD);
        Due.refused(x, "text(0, 0)", bad++, x.text(0, 0), Due.BAD);
        Due.refused(x, "would(0, 0, 0)", bad++, x.would(0, 0, 0), Due.BAD);
        Due.refused(x, "hitch(0, 0)", bad++, x.hitch(0, 0), Due.BAD);
        Due.refused(x, "times(0, 0)", bad++, x.times(0, 0), Due.BAD);
        Due.refused(x, "workedOf(0, 0)", bad++, x.workedOf(0, 0), Due.BAD);
        Due.refused(x, "chart(0, 0)", bad++, x.chart(0, 0), Due.BAD);
        Due.refused(x, "differ(0, 0)", bad++, x.differ(0, 0), Due.BAD);
        Due.refused(x, "show(0, 0, 0)", bad++, x.show(0, 0, 0), Due.BAD);
        Due.refused(x, "line()", bad, x.line() + 600 + Due.BAD, Due.BAD);
        Due.refused(x, "drop()", 0, x.drop(), Due.STUCK);
        Due.refused(x, "days(1)", 1, x.days(1), Due.STUCK);
        Due.refused(x, "back()", 2, x.back(), Due.STUCK);
        Due.refused(x, "set(0, 0, 0)", 0, x.set(0, 0, 0), Due.NOTHING);
        Due.refused(x, "copy(0, 1, 0, 0, 0)", 1, x.copy(0, 1, 0, 0, 0), Due.NOTHING);
        Due.refused(x, "says(0, 0)", 2, x.says(0, 0), Due.NOTHING);
    }

    /** SEED times 1103515245, and 12345, as an int that wraps, told without ints. */
    private static int next(int seed) {
        return BigInteger.valueOf(seed).multiply(FACTOR).add(BigInteger.valueOf(12345)).mod(TURN).intValue();
    }

    /** The SEED behind which that one comes. */
    private static int ahead(int seed) {
        return BigInteger.valueOf(seed).subtract(BigInteger.valueOf(12345)).multiply(FACTOR.modInverse(TURN)).mod(TURN).intValue();
    }

    private static int drawn(int seed, int below) {
        return (int) ((seed & 0xffffffffL) / 65536 % below);
    }

    private static void seedWraps() {
        int[] seeds = {0, 1, 2, -1, 1947, 1948, Integer.MAX_VALUE, Integer.MIN_VALUE, 65535, 65536, ahead(-1), ahead(0),
            ahead(Integer.MAX_VALUE), ahead(Integer.MIN_VALUE)};
        for (int seed : seeds) {
            KnitReader x = Due.knit(1, "k");
            x.seed(seed);
            x.days(1);
            Due.due("SEED behind " + seed, x.status(6), next(seed));
            x.days(2);
            Due.due("SEED three days behind " + seed, x.status(6), next(next(next(seed))));
        }
    }

    private static KnitReader tenRows() {
        KnitReader x = new KnitReader();
        for (int i = 0; i < 10; i++) {
            Due.tell(x, "k");
        }
        x.cast(1);
        return x;
    }

    /** Its upper 16 bits, no sign, modulo n. */
    private static void upperBitsWithoutSign() {
        int[] behind = {0, 0xffff, 0x10000, 0x7fffffff, 0x80000000, 0x80010000, 0xffff0000, 0xffffffff, 0xfffe8000};
        for (int seed : behind) {
            KnitReader x = tenRows();
            x.seed(ahead(seed));
            Due.due("days(1)", x.days(1), 1);
            Due.due("SEED", x.status(6), seed);
            Due.due("DRAW of " + seed, x.workedOf(0, 5), drawn(seed, 10));
        }
        Due.due("65535 modulo 10", drawn(0xffff0000, 10), 5);
        Due.due("32768 modulo 10", drawn(0x80000000, 10), 8);
        Due.due("32767 modulo 10", drawn(0x7fffffff, 10), 7);
    }

    private static void drawBelowOne() {
        KnitReader x = Due.knit(1, "k");
        x.seed(ahead(-1));
        Due.due("days(50)", x.days(50), 50);
        for (int i = 0; i < 50; i++) {
            Due.due("ROW of the day " + i, x.workedOf(i, 5), 0);
        }
    }

    private static void drawBelowEach() {
        KnitReader x = new KnitReader();
        x.mode(1);
        x.cast(1);
        int seed = 1;
        for (int rows = 1; rows <= 20; rows++) {
            Due.tell(x, "k");
            Due.due("days(2)", x.days(2), 2);
            for (int day = 0; day < 2; day++) {
                seed = next(seed);
                Due.due("DRAW below " + rows, x.workedOf(2 * rows - 2 + day, 5), drawn(seed, rows));
            }
        }
    }

    private static void drawIsOfTheRowsNow() {
        KnitReader x = tenRows();
        for (int i = 0; i < 9; i++) {
            x.drop();
        }
        x.seed(ahead(0xffff0000));
        x.days(1);
        Due.due("of the one that is left", x.workedOf(0, 5), 0);
    }

    private static void daysBounds() {
        KnitReader x = Due.knit(1, "k");
        int[] wrong = {0, -1, 61, 62, Integer.MAX_VALUE, Integer.MIN_VALUE};
        for (int i = 0; i < wrong.length; i++) {
            Due.refused(x, "days(" + wrong[i] + ")", i, x.days(wrong[i]), Due.BAD);
        }
        Due.due("SEED", x.status(6), 1);
        Due.due("days(1)", x.days(1), 1);
        Due.due("status(1)", x.status(1), 1);
        KnitReader y = Due.knit(1, "k");
        Due.due("days(60): 50, then one of two", y.days(60), 55);
        Due.due("status(1)", y.status(1), 50);
    }

    /** BAD; STUCK: no ROWS. */
    private static void daysAreStuckWithoutRows() {
        KnitReader x = Due.knit(2, "k2");
        x.work(0);
        x.drop();
        Due.refused(x, "days(1)", 0, x.days(1), Due.STUCK);
        Due.refused(x, "days(60)", 1, x.days(60), Due.STUCK);
        Due.refused(x, "BAD ahead of STUCK", 0, x.days(0), Due.BAD);
        Due.refused(x, "BAD ahead of STUCK", 1, x.days(61), Due.BAD);
        Due.due("SEED", x.status(6), 1);
        Due.due("nothing is RIPPED BACK", x.status(1), 1);
    }

    /** If that can't be: 1 ROW is RIPPED BACK, if there is one. */
    private static void dayRipsOneIfThereIsOne() {
        KnitReader x = Due.knit(4, "k4");
        x.run(0, 0, 3);
        x.drop();
        Due.tell(x, "k5");
        int[] left = {2, 1, 0, 0, 0};
        for (int i = 0; i < left.length; i++) {
            Due.due("days(1)", x.days(1), 0);
            Due.due("WORKED ROWS", x.status(1), left[i]);
            Due.due("STITCHES", x.status(2), 4);
            Due.due("SIDE", x.status(3), left[i] % 2);
        }
        Due.due("no REFUSALS", x.status(15), 0);
        Due.due("no WHY", x.causes(), 0);
        Due.due("SEED goes on", x.status(6), next(next(next(next(next(1))))));
    }

    private static void dayWhenFilled() {
        KnitReader x = Due.knit(4, "k4");
        Due.due("days(50)", x.days(50), 50);
        Due.due("the 51st can't be", x.days(1), 0);
        Due.due("one is RIPPED BACK", x.status(1), 49);
        Due.due("and WORKED", x.days(1), 1);
        Due.due("no WHY of FILLED", x.causes(), 0);
    }

    private static void daysCountWhatWasWorked() {
        KnitReader x = Due.knit(3, "k3", "k4");
        int seed = 1;
        int worked = 0;
        int rows = 0;
        for (int day = 0; day < 60; day++) {
            seed = next(seed);
            boolean can = drawn(seed, 2) == 0;
            worked += can ? 1 : 0;
            rows = can ? rows + 1 : Math.max(0, rows - 1);
        }
        Due.due("days(60)", x.days(60), worked);
        Due.due("status(1)", x.status(1), rows);
        Due.due("SEED", x.status(6), seed);
    }

    private static void daysGoOnAsOne() {
        KnitReader x = Due.knit(5, "kt,<k>0", "k,m,<k>0", "k5");
        KnitReader y = Due.knit(5, "kt,<k>0", "k,m,<k>0", "k5");
        int sum = 0;
        for (int day = 0; day < 60; day++) {
            sum += x.days(1);
        }
        Due.due("60 days of one, and 60 at once", y.days(60), sum);
        for (int what = 0; what < 7; what++) {
            Due.due("status(" + what + ")", y.status(what), x.status(what));
        }
    }

    private static void seedTakesAnything() {
        KnitReader x = new KnitReader();
        int[] seeds = {0, -1, Integer.MAX_VALUE, Integer.MIN_VALUE, 1, -92};
        int due = 1;
        for (int seed : seeds) {
            Due.due("seed(" + seed + ")", x.seed(seed), due);
            Due.due("status(6)", x.status(6), seed);
            due = seed;
        }
        for (int what = 12; what <= 16; what++) {
            Due.due("status(" + what + ")", x.status(what), 0);
        }
    }

    private static void imageOfNothing() {
        KnitReader x = new KnitReader();
        Due.due("image()", x.image(), 1);
        Due.tell(x, "k5");
        x.mode(1);
        x.cast(5);
        x.work(0);
        x.seed(9);
        Due.due("back()", x.back(), 1);
        int[] due = {0, 0, 0, 0, 0, 0, 1};
        for (int what = 0; what < due.length; what++) {
            Due.due("status(" + what + ")", x.status(what), due[what]);
        }
        Due.due("work(0)", x.work(0), Due.BAD);
        Due.due("cast(60)", x.cast(60), 60);
    }

    private static void imageOfTheFullest() {
        KnitReader x = new KnitReader();
        for (int i = 0; i < 20; i++) {
            Due.tell(x, i % 2 == 0 ? "<bo>0,yo60" : "<k>0");
        }
        x.cast(60);
        x.run(0, 19, 2);
        x.run(0, 9, 1);
        x.image();
        x.rip(50);
        for (int i = 0; i < 20; i++) {
            x.drop();
        }
        x.mode(1);
        Due.due("back()", x.back(), 1);
        int[] due = {20, 50, 60, 0, 0, 0, 1};
        for (int what = 0; what < due.length; what++) {
            Due.due("status(" + what + ")", x.status(what), due[what]);
        }
        for (int worked = 0; worked < 50; worked++) {
            Due.due("STITCHES of " + worked, x.workedOf(worked, 1), worked % 2 == 0 ? 120 : 60);
            Due.due("ROW of " + worked, x.workedOf(worked, 5), worked % 20);
        }
        Due.due("chart(48, 119)", x.chart(48, 119), 7);
        Due.due("FILLED", x.work(0), Due.STUCK);
        Due.due("FULL", Due.tell(x, "k"), Due.FULL);
    }

    /** All is kept. */
    private static void imageKeepsWhatItSays() {
        KnitReader x = Due.knit(4, "k4", "k2,kt", "p3");
        x.mode(1);
        x.run(0, 1, 1);
        x.seed(1234);
        x.image();
        x.rip(2);
        x.mode(0);
        x.drop();
        x.drop();
        Due.tell(x, "sl4");
        x.run(0, 1, 1);
        x.seed(5);
        Due.due("back()", x.back(), 1);
        int[] due = {3, 2, 3, 0, 1, 0, 1234};
        for (int what = 0; what < due.length; what++) {
            Due.due("status(" + what + ")", x.status(what), due[what]);
        }
        Due.due("ROW 1", x.lineOf(1, 2), 5);
        Due.due("ROW 2", x.text(2, 0), 'p');
        Due.due("WORKED ROW 1", x.shorthand(1, 3), 'k');
        Due.due("WORKED ROW 1", x.shorthand(1, 4), 't');
        Due.due("its SIDE", x.workedOf(1, 0), 0);
        Due.due("origin(2)", x.origin(2), 12);
        Due.due("work(2)", x.work(2), 3);
    }

    private static void imageKeepsSides() {
        for (int many = 0; many <= 3; many++) {
            KnitReader x = Due.knit(2, "k2", "p2", "sl2");
            for (int line = 0; line < many; line++) {
                x.work(line);
            }
            x.image();
            if (many > 0) {
                x.rip(many);
            }
            x.work(2);
            x.run(0, 0, 4 + many % 2);
            Due.due("SIDE ahead of back()", x.status(3), 1 - many % 2);
            x.back();
            Due.due("SIDE behind " + many, x.status(3), many % 2);
            for (int worked = 0; worked < many; worked++) {
                Due.due("SIDE of " + worked, x.workedOf(worked, 0), worked % 2);
                Due.due("ROW of " + worked, x.workedOf(worked, 5), worked);
                Due.due("KIND of " + worked, x.stitch(worked, 0, 0), 4 + worked);
            }
            x.work(0);
            Due.due("SIDE of what comes next", x.workedOf(many, 0), many % 2);
        }
    }

    /** But THE TAPE, SHELVES, WHY and REFUSALS: they are as they are now. */
    private static void imageKeepsNotTheRest() {
        KnitReader x = Due.knit(2, "k2", "k3");
        x.row(0, 2, 1);
        x.set(0, 0, 5);
        x.feed('k');
        x.work(1);
        x.image();
        x.wipe();
        x.feed('p');
        x.feed('2');
        x.set(0, 0, 6);
        x.row(1, 4, 2);
        x.run(1, 1, 1);
        x.set(7, 0, 0);
        x.work(0);
        Due.due("back()", x.back(), 1);
        Due.due("WORKED ROWS", x.status(1), 0);
        Due.due("THE TAPE", x.status(5), 2);
        Due.due("SHELVES", x.status(7), 2);
        Due.due("element(0, 0)", x.element(0, 0), 6);
        Due.whyIs(x, "WHY", 12, 1, 1, 11, 1, 2, 1, 0, 0);
        Due.due("NOTHING", x.status(14), 1);
        Due.due("STUCK", x.status(15), 2);
        Due.due("line()", x.line(), 2);
        Due.due("text(2, 0)", x.text(2, 0), 'p');
    }

    private static void imageAgain() {
        KnitReader x = Due.knit(2, "k2");
        x.image();
        x.work(0);
        x.image();
        x.work(0);
        x.back();
        Due.due("the latest image", x.status(1), 1);
        x.rip(1);
        x.image();
        x.work(0);
        x.back();
        Due.due("of fewer", x.status(1), 0);
    }

    private static void imageStaysBehindBack() {
        KnitReader x = Due.knit(2, "k2", "p2");
        x.work(0);
        x.image();
        for (int i = 0; i < 3; i++) {
            x.rip(1);
            x.work(1);
            x.work(1);
            x.drop();
            Due.due("back() " + i, x.back(), 1);
            Due.due("ROWS", x.status(0), 2);
            Due.due("WORKED ROWS", x.status(1), 1);
            Due.due("stitch(0, 0, 0)", x.stitch(0, 0, 0), 4);
        }
    }

    private static void backIsStuck() {
        KnitReader x = Due.knit(2, "k2");
        x.work(0);
        Due.refused(x, "back()", 0, x.back(), Due.STUCK);
        Due.refused(x, "back() again", 1, x.back(), Due.STUCK);
        Due.due("WORKED ROWS", x.status(1), 1);
        x.image();
        Due.due("back() behind image()", x.back(), 1);
        Due.due("STUCK", x.status(15), 2);
    }

    /** NONE another what. */
    private static void statusBounds() {
        KnitReader x = new KnitReader();
        int[] none = {-1, 8, 9, 10, 11, 17, 18, -12, -92, -96, 255, Integer.MAX_VALUE, Integer.MIN_VALUE,
            Integer.MIN_VALUE + 12, Integer.MIN_VALUE + 16};
        for (int what : none) {
            Due.due("status(" + what + ")", x.status(what), -1);
        }
        for (int what = 0; what <= 7; what++) {
            Due.due("status(" + what + ")", x.status(what), what == 6 ? 1 : 0);
        }
        for (int what = 12; what <= 16; what++) {
            Due.due("status(" + what + ")", x.status(what), 0);
        }
    }

    private static void statusCountsShelves() {
        KnitReader x = Due.knit(1, "k");
        x.work(0);
        for (int s = 0; s < 8; s++) {
            if (s % 2 == 0) {
                x.row(s, 0, 0);
            } else {
                x.show(s, 0, 0);
            }
            Due.due("status(7)", x.status(7), s + 1);
        }
        for (int s = 0; s < 8; s++) {
            x.show(s, -1, 0);
            Due.due("status(7)", x.status(7), 7 - s);
        }
    }

    /** 12 to 16: REFUSALS -92 to -96, each by its own number. */
    private static void refusalsAreCounted() {
        KnitReader x = Due.knit(1, "k");
        x.work(0);
        x.show(0, 0, 0);
        for (int i = 0; i < 250; i++) {
            x.feed(' ');
        }
        int[] counts = {4, 3, 2, 5, 1};
        x.cast(0);
        x.fits(-1);
        x.roots(0, 1);
        x.origin(-1);
        x.set(0, 0, 0);
        x.copy(0, 1, 0, 0, 0);
        x.says(0, 5);
        x.set(1, 0, 0);
        x.says(1, 0);
        x.mode(1);
        x.cast(1);
        x.back();
        x.drop();
        x.drop();
        x.days(1);
        x.feed('k');
        for (int i = 0; i < 5; i++) {
            Due.due("status(" + (12 + i) + ")", x.status(12 + i), counts[i]);
        }
        x.line();
        Due.due("a FAULT is BAD", x.status(12), 5);
    }

    /** An object is used for at most 512 calls: the last ones are as the first. */
    private static void the512thCall() {
        KnitReader x = Due.knit(1, "k");
        int calls = 3;
        while (calls < 507) {
            Due.due("call " + (calls + 1), x.days(60) > 0 ? 1 : 0, 1);
            Due.due("call " + (calls + 2), x.work(3), Due.BAD);
            calls += 2;
        }
        Due.due("call 508: BAD", x.status(12), (calls - 3) / 2);
        Due.due("calls 509 and 510: SIDE and WORKED ROWS", x.status(1) % 2, x.status(3));
        Due.due("call 511: STUCK", x.status(15), 0);
        Due.due("call 512: STITCHES", x.status(2), 1);
    }
}
