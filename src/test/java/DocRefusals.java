/** DocumentTest's fourth part: REFUSALS. */
final class DocRefusals {
    private DocRefusals() {
    }

    static void go() {
        refusals();
        bad();
        other();
        nothing();
        stuck();
        full();
    }

    private static void refusals() {
        Doc.says("REFUSALS (the call answers the number; nothing changes but how many there were, and WHY as told; the first that fits as "
            + "each line has them):");
        KnitReader x = Due.knit(2, "k2", "k3");
        x.row(0, 2, 1);
        x.set(0, 0, 7);
        x.work(0);
        int[] ahead = new int[8];
        for (int what = 0; what < 8; what++) {
            ahead[what] = x.status(what);
        }
        Due.due("BAD", x.rip(2), -92);
        Due.due("OTHER", x.says(0, 0), -93);
        Due.due("NOTHING", x.says(1, 0), -94);
        Due.due("STUCK", x.mode(1), -95);
        Due.due("no WHY of these", x.causes(), 0);
        Due.due("STUCK", x.work(1), -95);
        Due.whyIs(x, "WHY as told", 11, 1, 2, 1, 0, 0);
        for (int what = 0; what < 8; what++) {
            Due.due("status(" + what + ")", x.status(what), ahead[what]);
        }
        Due.due("element(0, 0)", x.element(0, 0), 7);
        int[] were = {1, 1, 1, 2, 0};
        for (int i = 0; i < were.length; i++) {
            Due.due("how many there were of " + (-92 - i), x.status(12 + i), were[i]);
        }
        Due.due("BAD comes first", x.says(1, 13), -92);
        Due.due("BAD comes first", x.mode(2), -92);
    }

    private static void bad() {
        Doc.says("-92 BAD a number that may not be, nothing of that number.");
        KnitReader x = Due.knit(0, "k");
        Due.refused(x, "a number that may not be", 0, x.cast(61), -92);
        Due.refused(x, "nothing of that number", 1, x.work(1), -92);
    }

    private static void other() {
        Doc.says("-93 OTHER: a SHELF that holds another thing than is wanted.");
        KnitReader x = Due.knit(1, "k");
        x.work(0);
        x.show(0, 0, 0);
        x.row(1, 2, 1);
        Due.refused(x, "a STITCH, and numbers are wanted", 0, x.set(0, 0, 1), -93);
        Due.refused(x, "numbers, and a STITCH is wanted", 1, x.says(1, 0), -93);
    }

    private static void nothing() {
        Doc.says("-94 NOTHING: a SHELF that holds NOTHING.");
        KnitReader x = new KnitReader();
        Due.refused(x, "set", 0, x.set(0, 0, 1), -94);
        Due.refused(x, "says", 1, x.says(7, 0), -94);
    }

    private static void stuck() {
        Doc.says("-95 STUCK: it can't be as things stand.");
        KnitReader x = new KnitReader();
        Due.refused(x, "drop", 0, x.drop(), -95);
        Due.refused(x, "back", 1, x.back(), -95);
    }

    private static void full() {
        Doc.says("-96 FULL.");
        KnitReader x = new KnitReader();
        for (int i = 0; i < 250; i++) {
            x.feed('k');
        }
        Due.refused(x, "feed", 0, x.feed('k'), -96);
    }
}
