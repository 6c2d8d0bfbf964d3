/** Promises 9 to 12, 20 and 21: THE TAPE, ROWS as they are read, and their FAULTS. */
public final class RowsTest {
    private static final String FULL_TAPE = "k,".repeat(124) + "sl";

    public static void main(String[] args) {
        feeds();
        wipes();
        goodTexts();
        faults();
        rowsAreNumbered();
        fullOfRows();
        drops();
        linesToldOf();
        texts();
        Due.end("RowsTest");
    }

    private static void feeds() {
        KnitReader x = new KnitReader();
        Due.due("feed(0)", x.feed(0), 1);
        Due.due("feed(255)", x.feed(255), 2);
        Due.refused(x, "feed(-1)", 0, x.feed(-1), Due.BAD);
        Due.refused(x, "feed(256)", 1, x.feed(256), Due.BAD);
        for (int size = 3; size <= 250; size++) {
            Due.due("feed(107)", x.feed(107), size);
        }
        Due.refused(x, "a 251st", 0, x.feed(107), Due.FULL);
        Due.refused(x, "BAD ahead of FULL", 2, x.feed(256), Due.BAD);
        Due.due("status(5)", x.status(5), 250);
        KnitReader y = new KnitReader();
        Due.feed(y, FULL_TAPE);
        Due.due("250 bytes", y.status(5), 250);
        Due.due("a ROW of 250 bytes", y.line(), 0);
        Due.due("its size", y.lineOf(0, 2), 250);
        Due.due("its PARTS", y.lineOf(0, 0), 125);
    }

    private static void wipes() {
        KnitReader x = new KnitReader();
        Due.due("wipe() of none", x.wipe(), 0);
        Due.feed(x, "k,?");
        Due.due("wipe()", x.wipe(), 3);
        Due.due("status(5)", x.status(5), 0);
        Due.due("wipe() again", x.wipe(), 0);
        Due.due("told anew", Due.tell(x, "p"), 0);
        Due.due("its text", x.text(0, 0), 'p');
        Due.due("its size", x.lineOf(0, 2), 1);
    }

    private static void goodTexts() {
        String[] good = {"k", "p", "sl", "yo", "m", "kt", "sk", "bo", "sd", "k1", "k60", "k05", "sd60", "(k)1", "(k)60", "(k)06",
            "<k>0", "<k>00", "<k>60", "<k>5", "k,p", "k2,p2,k2", "(k,p)2,<sl,(yo)3>7,bo", "((k)2,p)3", "<<<<<k>1>1>1>1>1",
            "(((((k)2)2)2)2)2", "(<(<(k)2>2)2>2)2,((((p)1,m)1)1)1"};
        for (String text : good) {
            KnitReader x = new KnitReader();
            Due.due("line() of " + text, Due.tell(x, text), 0);
            Due.due("status(5)", x.status(5), 0);
            Due.due("status(0)", x.status(0), 1);
            Due.due("status(12)", x.status(12), 0);
        }
    }

    private static void faults() {
        fault("", 0);
        fault(",", 0);
        fault("k,", 2);
        fault("k,,p", 2);
        fault("2k", 0);
        fault("K", 0);
        fault(" k", 0);
        fault("k p", 1);
        fault("k,p ", 3);
        fault("q", 0);
        fault("y", 0);
        fault("s", 0);
        fault("kk", 0);
        fault("ka", 0);
        fault("kz", 0);
        fault("k`", 1);
        fault("k{", 1);
        fault("kA", 1);
        fault("k/", 1);
        fault("k:", 1);
        fault("k5:", 2);
        fault("k,ktk", 2);
        fault("k,(p,slk2)3", 5);
        fault("k0", 1);
        fault("k00", 1);
        fault("k61", 1);
        fault("k99,p", 1);
        fault("k611", 1);
        fault("k100", 3);
        fault("k012", 3);
        fault("sl601", 4);
        fault("k2k", 2);
        fault("k2(p)2", 2);
        fault("k(p)2", 1);
        fault("(", 1);
        fault("()2", 1);
        fault("(k", 2);
        fault("(k,", 3);
        fault("(k)", 3);
        fault("(k),p", 3);
        fault("(k)0", 3);
        fault("(k)00", 3);
        fault("(k)61", 3);
        fault("(k)100", 5);
        fault("(k)p", 3);
        fault("(k)2p", 4);
        fault("(k)2)2", 4);
        fault("(k>2", 2);
        fault("<k)2", 2);
        fault("<k>", 3);
        fault("<k>61", 3);
        fault("<k>000", 5);
        fault("<>1", 1);
        fault("<", 1);
        fault("k)", 1);
        fault("k>", 1);
        fault(")", 0);
        fault("-", 0);
        fault("k-1", 1);
        fault("((((((k)2)2)2)2)2)2", 5);
        fault("<(<(<(k)2>2)2>2)2>2", 5);
        fault("k,(p,(p,(p,(p,(k,(p)2)2)2)2)2)2", 17);
        fault("(((((", 5);
        fault("((((((", 5);
        fault("k,p,sl,yo,m,kt,sk,bo,sd,x", 24);
        fault("k\u0000", 1);
        fault("\u00ff", 0);
        fault(FULL_TAPE.substring(0, 249) + ",", 248);
        fault(FULL_TAPE.substring(0, 248) + "k,", 250);
    }

    private static void fault(String text, int place) {
        KnitReader x = new KnitReader();
        Due.due("line() of " + text, Due.tell(x, text), -600 - place);
        Due.due("FAULT of " + text + " is counted", x.status(12), 1);
        Due.due("THE TAPE behind " + text, x.status(5), 0);
        Due.due("ROWS behind " + text, x.status(0), 0);
    }

    private static void rowsAreNumbered() {
        KnitReader x = new KnitReader();
        Due.due("first", Due.tell(x, "k"), 0);
        Due.due("wrong", Due.tell(x, "k,"), -602);
        Due.due("second", Due.tell(x, "p"), 1);
        Due.due("third", Due.tell(x, "k"), 2);
        Due.due("status(0)", x.status(0), 3);
    }

    private static void fullOfRows() {
        KnitReader x = new KnitReader();
        for (int i = 0; i < 20; i++) {
            Due.due("ROW " + i, Due.tell(x, "k" + (i + 1)), i);
        }
        Due.feed(x, "p");
        Due.refused(x, "a 21st", 0, x.line(), Due.FULL);
        Due.due("THE TAPE is empty then", x.status(5), 0);
        Due.due("a FAULT ahead of FULL", Due.tell(x, "p,"), -602);
        Due.due("BAD", x.status(12), 1);
        Due.due("FULL", x.status(16), 1);
        Due.due("drop()", x.drop(), 19);
        Due.due("room again", Due.tell(x, "p"), 19);
        Due.due("the last", x.text(19, 0), 'p');
    }

    private static void drops() {
        KnitReader x = Due.knit(1, "k", "p", "sl");
        x.work(2);
        Due.due("drop()", x.drop(), 2);
        Due.due("what was WORKED stays", x.workedOf(0, 5), 2);
        Due.due("what was WORKED stays", x.stitch(0, 0, 0), 6);
        Due.refused(x, "work(2)", 0, x.work(2), Due.BAD);
        Due.due("drop()", x.drop(), 1);
        Due.due("drop()", x.drop(), 0);
        Due.refused(x, "drop() of none", 0, x.drop(), Due.STUCK);
        Due.due("status(0)", x.status(0), 0);
        Due.due("causes()", x.causes(), 0);
    }

    private static void linesToldOf() {
        lineIs("k", 1, 0, 0);
        lineIs("k2,<p2,k2>0", 4, 1, 1);
        lineIs("(((((k)2)2)2)2)2", 6, 5, 0);
        lineIs("k,p,sl", 3, 0, 0);
        lineIs("(k,<p,m>3,sl)2,yo", 7, 2, 1);
        lineIs("(k)2,(p,(k)2)3", 6, 2, 0);
        lineIs("(p,(k)2)3,(k)2", 6, 2, 0);
        KnitReader x = Due.knit(0, "k");
        Due.refused(x, "lineOf(1, 0)", 0, x.lineOf(1, 0), Due.BAD);
        Due.refused(x, "lineOf(-1, 0)", 1, x.lineOf(-1, 0), Due.BAD);
        Due.refused(x, "lineOf(0, -1)", 2, x.lineOf(0, -1), Due.BAD);
        Due.refused(x, "lineOf(0, 4)", 3, x.lineOf(0, 4), Due.BAD);
    }

    private static void lineIs(String text, int parts, int within, int till) {
        KnitReader x = Due.knit(0, "p", text);
        Due.due("PARTS of " + text, x.lineOf(1, 0), parts);
        Due.due("within, of " + text, x.lineOf(1, 1), within);
        Due.due("size of " + text, x.lineOf(1, 2), text.length());
        Due.due("< > of " + text, x.lineOf(1, 3), till);
    }

    private static void texts() {
        String text = "(k,<p,m>03,sl)2,yo";
        KnitReader x = Due.knit(0, text, "p");
        for (int i = 0; i < text.length(); i++) {
            Due.due("text(0, " + i + ")", x.text(0, i), text.charAt(i));
        }
        Due.due("text behind it", x.text(0, text.length()), -1);
        Due.due("text(0, -1)", x.text(0, -1), -1);
        Due.due("text(0, max)", x.text(0, Integer.MAX_VALUE), -1);
        Due.due("text(1, 0)", x.text(1, 0), 'p');
        Due.due("NONE isn't refused", x.status(12), 0);
        Due.refused(x, "text(2, 0)", 0, x.text(2, 0), Due.BAD);
        Due.refused(x, "text(-1, 0)", 1, x.text(-1, 0), Due.BAD);
    }
}
