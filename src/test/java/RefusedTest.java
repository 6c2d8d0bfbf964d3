import java.util.ArrayList;
import java.util.List;
import java.util.function.Supplier;
import java.util.function.ToLongFunction;

/**
 * REFUSALS: the call answers the number; nothing changes but how many there were, and WHY as told.
 * Each refused call is made on one of two like objects, and all that can be told of both compared.
 */
public final class RefusedTest {
    private static final int MOST_CALLS = 512;

    /** What a refused call changes beside how many there were. */
    private enum Changed { NOTHING_ELSE, WHY, TAPE }

    public static void main(String[] args) {
        shelfCalls();
        rowCalls();
        workCalls();
        thoughtCalls();
        askCalls();
        keepCalls();
        onNothing();
        onTheFullest();
        onAFullTape();
        hitchesChangeWhyAlone();
        faultsEmptyTheTapeAlone();
        asksChangeNothing();
        Due.end("RefusedTest");
    }

    /** Something of all that there is: ROWS, WORKED ROWS, SHELVES, THE TAPE, WHY, REFUSALS, what is kept. */
    private static KnitReader busy() {
        KnitReader x = Due.knit(4, "k4", "k2,kt", "p2");
        x.seed(77);
        x.work(0);
        x.image();
        x.seed(99);
        x.work(1);
        x.work(0);
        x.row(0, 0, 3);
        x.set(0, 1, 5);
        x.row(1, 3, 2);
        x.set(1, 0, 1L << 40);
        x.show(2, 1, 2);
        x.set(3, 0, 0);
        Due.feed(x, "sl,m");
        return x;
    }

    private static KnitReader bare() {
        return new KnitReader();
    }

    /** 20 ROWS, 50 WORKED ROWS, 8 SHELVES. */
    private static KnitReader fullest() {
        KnitReader x = new KnitReader();
        for (int i = 0; i < 20; i++) {
            Due.tell(x, i % 2 == 0 ? "k2" : "p2");
        }
        x.cast(2);
        x.run(0, 19, 2);
        x.run(0, 9, 1);
        for (int s = 0; s < 8; s++) {
            x.row(s, 2, 1);
        }
        x.feed('k');
        return x;
    }

    private static KnitReader fullTape() {
        KnitReader x = new KnitReader();
        Due.feed(x, "k,".repeat(124) + "sl");
        return x;
    }

    // ---- all that can be told of an object ----

    private static void tellStatus(KnitReader x, List<Long> told) {
        for (int what = 0; what <= 7; what++) {
            told.add((long) x.status(what));
        }
    }

    private static void tellShelves(KnitReader x, List<Long> told) {
        for (int s = 0; s < 8; s++) {
            told.add((long) x.holds(s));
            for (int i = 0; i < 3; i++) {
                told.add(x.element(s, i));
            }
        }
    }

    private static void tellWhy(KnitReader x, List<Long> told) {
        int causes = x.causes();
        told.add((long) causes);
        for (int i = 0; i < causes * 3; i++) {
            told.add((long) x.why(i / 3, i % 3));
        }
    }

    private static void tellRows(KnitReader x, List<Long> told) {
        int rows = x.status(0);
        for (int line = Math.max(0, rows - 3); line < rows; line++) {
            int size = Math.min(5, x.lineOf(line, 2));
            told.add((long) size);
            for (int i = 0; i < size; i++) {
                told.add((long) x.text(line, i));
            }
        }
    }

    private static void tellWorked(KnitReader x, List<Long> told) {
        int worked = x.status(1);
        for (int i = Math.max(0, worked - 3); i < worked; i++) {
            told.add((long) x.workedOf(i, 0));
            told.add((long) x.workedOf(i, 5));
            int size = Math.min(4, x.workedOf(i, 1));
            for (int k = 0; k < size; k++) {
                told.add((long) x.stitch(i, k, 0));
            }
        }
        told.add(x.yarn());
        int needle = Math.min(4, x.status(2));
        for (int j = 0; j < needle; j++) {
            told.add(x.origin(j));
        }
    }

    /** THE TAPE is told at last, as a ROW. */
    private static void tellTape(KnitReader x, List<Long> told) {
        int rows = x.status(0);
        told.add((long) x.line());
        if (x.status(0) > rows) {
            tellRows(x, told);
        }
    }

    private static List<Long> all(KnitReader x, boolean why, boolean tape) {
        List<Long> told = new ArrayList<>();
        tellStatus(x, told);
        if (!tape) {
            told.set(5, 0L);
        }
        tellShelves(x, told);
        tellRows(x, told);
        tellWorked(x, told);
        if (why) {
            tellWhy(x, told);
        }
        if (tape) {
            tellTape(x, told);
        } else {
            x.wipe();
        }
        told.add((long) x.days(3));
        tellStatus(x, told);
        told.add((long) x.back());
        tellStatus(x, told);
        tellRows(x, told);
        tellWorked(x, told);
        return told;
    }

    private static void same(String call, List<Long> got, List<Long> want) {
        Due.due(call + ": what can be told", got.size(), want.size());
        Due.due(call + ": calls of it", got.size() < MOST_CALLS / 2 ? 1 : 0, 1);
        for (int i = 0; i < Math.min(got.size(), want.size()); i++) {
            Due.due(call + ": what can be told, " + i, got.get(i), want.get(i));
        }
    }

    private static void refused(Supplier<KnitReader> scene, String call, int number, long answer, ToLongFunction<KnitReader> made) {
        changed(Changed.NOTHING_ELSE, scene, call, number, answer, made);
    }

    private static void changed(Changed other, Supplier<KnitReader> scene, String call, int number, long answer,
            ToLongFunction<KnitReader> made) {
        KnitReader x = scene.get();
        KnitReader y = scene.get();
        Due.due(call, made.applyAsLong(x), answer);
        for (int what = 12; what <= 16; what++) {
            int more = what == -80 - number ? 1 : 0;
            Due.due(call + ": status(" + what + ")", x.status(what), y.status(what) + more);
        }
        if (other == Changed.TAPE) {
            Due.due(call + ": THE TAPE", x.status(5), 0);
        }
        boolean why = other != Changed.WHY;
        boolean tape = other != Changed.TAPE;
        same(call, all(x, why, tape), all(y, why, tape));
    }

    private static void bad(String call, ToLongFunction<KnitReader> made) {
        refused(RefusedTest::busy, call, Due.BAD, Due.BAD, made);
    }

    private static void longBad(String call, ToLongFunction<KnitReader> made) {
        refused(RefusedTest::busy, call, Due.BAD, Due.BAD - Due.FAR, made);
    }

    private static void hitch(String call, ToLongFunction<KnitReader> made) {
        changed(Changed.WHY, RefusedTest::busy, call, Due.STUCK, Due.STUCK, made);
    }

    private static void no(String call, int number, ToLongFunction<KnitReader> made) {
        refused(RefusedTest::busy, call, number, number, made);
    }

    // ---- each call that can be refused ----

    private static void shelfCalls() {
        bad("row(8, 0, 1)", x -> x.row(8, 0, 1));
        bad("row(0, 5, 1)", x -> x.row(0, 5, 1));
        bad("row(0, 0, 41)", x -> x.row(0, 0, 41));
        bad("row(2, 0, -1)", x -> x.row(2, 0, -1));
        bad("set(8, 0, 1)", x -> x.set(8, 0, 1));
        bad("set(0, 3, 1)", x -> x.set(0, 3, 1));
        no("set(2, 0, 1)", Due.OTHER, x -> x.set(2, 0, 1));
        no("set(3, 0, 1)", Due.NOTHING, x -> x.set(3, 0, 1));
        bad("copy(0, 8, 0, 0, 1)", x -> x.copy(0, 8, 0, 0, 1));
        bad("copy(-1, 0, 0, 0, 1)", x -> x.copy(-1, 0, 0, 0, 1));
        bad("copy(0, 0, 0, 1, 3)", x -> x.copy(0, 0, 0, 1, 3));
        bad("copy(0, 0, 1, 0, 3)", x -> x.copy(0, 0, 1, 0, 3));
        bad("copy(0, 0, 1, 0, -1)", x -> x.copy(0, 0, 1, 0, -1));
        no("copy(0, 1, 0, 0, 1)", Due.OTHER, x -> x.copy(0, 1, 0, 0, 1));
        no("copy(0, 2, 0, 0, 1)", Due.OTHER, x -> x.copy(0, 2, 0, 0, 1));
        no("copy(3, 2, 0, 0, 1)", Due.OTHER, x -> x.copy(3, 2, 0, 0, 1));
        no("copy(0, 3, 0, 0, 1)", Due.NOTHING, x -> x.copy(0, 3, 0, 0, 1));
        no("copy(3, 0, 0, 0, 1)", Due.NOTHING, x -> x.copy(3, 0, 0, 0, 1));
        bad("show(8, 0, 0)", x -> x.show(8, 0, 0));
        bad("show(8, NONE, 0)", x -> x.show(8, -1, 0));
        bad("show(0, 3, 0)", x -> x.show(0, 3, 0));
        bad("show(0, -2, 0)", x -> x.show(0, -2, 0));
        bad("show(2, 1, 3)", x -> x.show(2, 1, 3));
        bad("says(8, 0)", x -> x.says(8, 0));
        bad("says(2, 13)", x -> x.says(2, 13));
        no("says(0, 0)", Due.OTHER, x -> x.says(0, 0));
        no("says(2, 10)", Due.OTHER, x -> x.says(2, 10));
        no("says(3, 0)", Due.NOTHING, x -> x.says(3, 0));
    }

    private static void rowCalls() {
        bad("feed(256)", x -> x.feed(256));
        bad("feed(-1)", x -> x.feed(-1));
        bad("lineOf(3, 0)", x -> x.lineOf(3, 0));
        bad("lineOf(0, 4)", x -> x.lineOf(0, 4));
        bad("text(3, 0)", x -> x.text(3, 0));
        bad("text(-1, 0)", x -> x.text(-1, 0));
    }

    private static void workCalls() {
        bad("mode(2)", x -> x.mode(2));
        no("mode(1)", Due.STUCK, x -> x.mode(1));
        bad("cast(0)", x -> x.cast(0));
        bad("cast(61)", x -> x.cast(61));
        no("cast(5)", Due.STUCK, x -> x.cast(5));
        bad("work(3)", x -> x.work(3));
        bad("work(-1)", x -> x.work(-1));
        bad("run(0, 3, 1)", x -> x.run(0, 3, 1));
        bad("run(2, 1, 1)", x -> x.run(2, 1, 1));
        bad("run(0, 0, 21)", x -> x.run(0, 0, 21));
        bad("run(0, 0, 0)", x -> x.run(0, 0, 0));
        bad("rip(0)", x -> x.rip(0));
        bad("rip(3)", x -> x.rip(3));
        bad("why(3, 0)", x -> x.why(3, 0));
        bad("why(0, 3)", x -> x.why(0, 3));
    }

    private static void thoughtCalls() {
        bad("would(3, 0, 0)", x -> x.would(3, 0, 0));
        bad("would(0, 61, 0)", x -> x.would(0, 61, 0));
        bad("would(0, 4, 3)", x -> x.would(0, 4, 3));
        bad("hitch(3, 0)", x -> x.hitch(3, 0));
        bad("hitch(0, -1)", x -> x.hitch(0, -1));
        longBad("fits(3)", x -> x.fits(3));
        longBad("fits(-1)", x -> x.fits(-1));
        bad("times(0, 3)", x -> x.times(0, 3));
        bad("times(1, 0)", x -> x.times(1, 0));
    }

    private static void askCalls() {
        bad("workedOf(2, 0)", x -> x.workedOf(2, 0));
        bad("workedOf(0, 6)", x -> x.workedOf(0, 6));
        bad("stitch(2, 0, 0)", x -> x.stitch(2, 0, 0));
        bad("stitch(1, 3, 0)", x -> x.stitch(1, 3, 0));
        bad("stitch(0, 0, 3)", x -> x.stitch(0, 0, 3));
        bad("chart(2, 0)", x -> x.chart(2, 0));
        bad("shorthand(2, 0)", x -> x.shorthand(2, 0));
        bad("unit(2)", x -> x.unit(2));
        bad("mirrored(2, 0)", x -> x.mirrored(2, 0));
        bad("even(-1)", x -> x.even(-1));
        longBad("roots(2, 0)", x -> x.roots(2, 0));
        longBad("roots(1, 3)", x -> x.roots(1, 3));
        longBad("origin(3)", x -> x.origin(3));
        longBad("origin(-1)", x -> x.origin(-1));
        bad("many(13)", x -> x.many(13));
        bad("differ(2, 0)", x -> x.differ(2, 0));
        bad("differ(0, 2)", x -> x.differ(0, 2));
        bad("judge(2, 0, 1)", x -> x.judge(2, 0, 1));
        bad("judge(0, 8, 1)", x -> x.judge(0, 8, 1));
        bad("judge(0, 0, 41)", x -> x.judge(0, 0, 41));
        bad("judge(0, 0, 4)", x -> x.judge(0, 0, 4));
        no("judge(0, 2, 1)", Due.OTHER, x -> x.judge(0, 2, 1));
        no("judge(0, 3, 1)", Due.NOTHING, x -> x.judge(0, 3, 1));
    }

    private static void keepCalls() {
        bad("days(0)", x -> x.days(0));
        bad("days(61)", x -> x.days(61));
    }

    private static void onNothing() {
        refused(RefusedTest::bare, "drop() of none", Due.STUCK, Due.STUCK, KnitReader::drop);
        refused(RefusedTest::bare, "days(1) of none", Due.STUCK, Due.STUCK, x -> x.days(1));
        refused(RefusedTest::bare, "back() to nothing", Due.STUCK, Due.STUCK, KnitReader::back);
        refused(RefusedTest::bare, "rip(1) of none", Due.BAD, Due.BAD, x -> x.rip(1));
        refused(RefusedTest::bare, "run(0, 0, 1) of none", Due.BAD, Due.BAD, x -> x.run(0, 0, 1));
        refused(RefusedTest::bare, "set(0, 0, 1) on NOTHING", Due.NOTHING, Due.NOTHING, x -> x.set(0, 0, 1));
        changed(Changed.TAPE, RefusedTest::bare, "line() of nothing", Due.BAD, -600, KnitReader::line);
    }

    private static void onTheFullest() {
        changed(Changed.TAPE, RefusedTest::fullest, "line() of a 21st ROW", Due.FULL, Due.FULL, KnitReader::line);
        changed(Changed.WHY, RefusedTest::fullest, "work(0), FILLED", Due.STUCK, Due.STUCK, x -> x.work(0));
        changed(Changed.WHY, RefusedTest::fullest, "run(0, 19, 20), FILLED", Due.STUCK, Due.STUCK, x -> x.run(0, 19, 20));
        refused(RefusedTest::fullest, "back() to nothing", Due.STUCK, Due.STUCK, KnitReader::back);
        refused(RefusedTest::fullest, "rip(51)", Due.BAD, Due.BAD, x -> x.rip(51));
        refused(RefusedTest::fullest, "work(20)", Due.BAD, Due.BAD, x -> x.work(20));
    }

    private static void onAFullTape() {
        refused(RefusedTest::fullTape, "a 251st byte", Due.FULL, Due.FULL, x -> x.feed('k'));
        refused(RefusedTest::fullTape, "a 251st byte that may not be", Due.BAD, Due.BAD, x -> x.feed(256));
    }

    /** Nothing is done then, but WHY. */
    private static void hitchesChangeWhyAlone() {
        hitch("work(2), OVERLEFT", x -> x.work(2));
        hitch("work(0), SHORT", x -> x.work(0));
        hitch("run(0, 2, 20), SHORT at once", x -> x.run(0, 2, 20));
        KnitReader x = busy();
        Due.whyIs(x, "ahead of it", 11, 0, 3, 1, 0, 0);
        x.run(2, 2, 1);
        Due.whyIs(x, "behind it", 12, 1, 2, 11, 2, 2, 6, 2, 1);
    }

    /** THE TAPE is empty then, in any case. */
    private static void faultsEmptyTheTapeAlone() {
        changed(Changed.TAPE, RefusedTest::busy, "line() of sl,m(", Due.BAD, -604, x -> {
            x.feed('(');
            return x.line();
        });
        changed(Changed.TAPE, RefusedTest::busy, "line() of sl,m,", Due.BAD, -605, x -> {
            x.feed(',');
            return x.line();
        });
    }

    /** NONE isn't refused, and what is asked changes nothing. */
    private static void asksChangeNothing() {
        KnitReader x = busy();
        KnitReader y = busy();
        x.element(8, 0);
        x.element(2, 0);
        x.holds(8);
        x.text(0, 9);
        x.would(0, 9, 0);
        x.hitch(0, 4);
        x.fits(1);
        x.least();
        x.times(0, 2);
        x.chart(0, 9);
        x.shorthand(0, 9);
        x.unit(1);
        x.mirrored(0, -1);
        x.even(1);
        x.roots(1, 2);
        x.origin(2);
        x.yarn();
        x.many(12);
        x.differ(0, 0);
        x.judge(0, 0, 3);
        x.status(-1);
        x.says(2, 9);
        x.causes();
        for (int what = 12; what <= 16; what++) {
            Due.due("status(" + what + ")", x.status(what), y.status(what));
        }
        same("what was asked", all(x, true, true), all(y, true, true));
    }
}
