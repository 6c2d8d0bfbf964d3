/** DocumentTest's first part: Terms, 1. STITCHES AND ROWS. */
final class DocStitches {
    static final String[] WORDS = {"k", "p", "sl", "yo", "m", "kt", "sk", "bo", "sd"};
    static final int[] TAKES = {1, 1, 1, 0, 0, 2, 2, 1, 3};
    /** Of each KIND the one that it is under. */
    private static final int[] ABOVE = {-1, 0, 0, 0, 1, 1, 1, 2, 2, 3, 3, 3, 10};

    private DocStitches() {
    }

    static void go() {
        kinds();
        takesAndMakes();
        words();
        yarn();
        tape();
        partWord();
        partTimes();
        partTill();
        wordIsAsLong();
        digits();
        withinFourOthers();
        theFault();
        rowNumbers();
    }

    /** A ROW of this one WORD alone, WORKED. */
    static KnitReader worked(int word) {
        KnitReader x = Due.knit(TAKES[word], WORDS[word]);
        x.work(0);
        return x;
    }

    static boolean isUnder(int kind, int top) {
        return kind == top || kind > 0 && isUnder(ABOVE[kind], top);
    }

    private static void good(String text) {
        Due.due("line() of " + text, Due.tell(new KnitReader(), text), 0);
    }

    private static void fault(String text, int place) {
        Due.due("line() of " + text, Due.tell(new KnitReader(), text), -600 - place);
    }

    private static void kinds() {
        Doc.says("## Terms ==== 1. STITCHES AND ROWS STITCHES are of KINDS: 0 STITCH; 1 PLAIN, 2 GAIN, 3 LOSS, each under STITCH; "
            + "4 KNIT, 5 PURL, 6 SLIP, each under PLAIN; 7 OVER, 8 LIFT, each under GAIN; 9 RIGHT, 10 LEFT, 11 OFF, each under LOSS; "
            + "12 DOUBLE under LEFT (none is of KIND 0 to 3 itself).");
        for (int word = 0; word < WORDS.length; word++) {
            KnitReader x = worked(word);
            Due.due("KIND of " + WORDS[word], x.stitch(0, 0, 0), 4 + word);
            for (int kind = 0; kind <= 12; kind++) {
                Due.due(WORDS[word] + " is of KIND " + kind + " or under it", x.many(kind), isUnder(4 + word, kind) ? 1 : 0);
            }
        }
    }

    private static void takesAndMakes() {
        Doc.says("Each TAKES so many from the needle and MAKES so many: KNIT, PURL, SLIP 1 and 1; OVER, LIFT 0 and 1; RIGHT, LEFT 2 and "
            + "1; OFF 1 and 0; DOUBLE 3 and 1.");
        for (int word = 0; word < WORDS.length; word++) {
            KnitReader x = worked(word);
            Due.due(WORDS[word] + " TAKES", x.workedOf(0, 2), TAKES[word]);
            Due.due(WORDS[word] + " MAKES", x.workedOf(0, 3), WORDS[word].equals("bo") ? 0 : 1);
        }
    }

    private static void words() {
        Doc.says("WORDS: k, p, sl, yo, m, kt, sk, bo, sd, as they stand here (KNIT, PURL, SLIP, OVER, LIFT, RIGHT, LEFT, OFF, DOUBLE).");
        for (int word = 0; word < WORDS.length; word++) {
            KnitReader x = worked(word);
            Due.due("KIND of " + WORDS[word], x.stitch(0, 0, 0), 4 + word);
            fault(WORDS[word].toUpperCase(), 0);
            fault(WORDS[word] + "x", 0);
        }
        fault("s", 0);
        fault("y", 0);
        fault("b", 0);
        fault("d", 0);
        fault("ks", 0);
    }

    private static void yarn() {
        Doc.says("YARN: KNIT 10, PURL 11, SLIP 4, OVER 13, LIFT 9, RIGHT 12, LEFT 14, OFF 15, DOUBLE 18.");
        int[] yarn = {10, 11, 4, 13, 9, 12, 14, 15, 18};
        for (int word = 0; word < WORDS.length; word++) {
            Due.due("YARN of " + WORDS[word], worked(word).yarn(), yarn[word]);
        }
    }

    private static void tape() {
        Doc.says("```text A ROW is read from THE TAPE (bytes, 250 at most; no blanks): PARTS, one or more, with , between;");
        KnitReader x = new KnitReader();
        for (int size = 1; size <= 250; size++) {
            Due.due("byte " + size, x.feed(size % 2 == 1 ? 'p' : ','), size);
        }
        Due.due("a 251st byte", x.feed('p'), Due.FULL);
        Due.due("it ends with ,", x.line(), -850);
        fault(" k", 0);
        fault("k, p", 2);
        fault("k ", 1);
        fault("", 0);
        fault("k p", 1);
        fault("k,,p", 2);
        fault(",k", 0);
        fault("k,", 2);
        good("k");
        good("k,p,sl");
    }

    private static void partWord() {
        Doc.says("a PART: a WORD, perhaps with a number (1 to 60) right behind: so often;");
        for (int n = 1; n <= 60; n++) {
            KnitReader x = Due.knit(n, "p" + n);
            Due.due("work of p" + n, x.work(0), n);
            Due.due("PURLS of p" + n, x.many(5), n);
        }
        Due.due("without a number: once", Due.knit(1, "p").work(0), 1);
        fault("p0", 1);
        fault("p61", 1);
        fault("p99", 1);
    }

    private static void partTimes() {
        Doc.says("or ( PARTS ) and a number (1 to 60) right behind: so often;");
        for (int n = 1; n <= 30; n++) {
            KnitReader x = Due.knit(2 * n, "(p,k)" + n);
            Due.due("work of (p,k)" + n, x.work(0), 2 * n);
            Due.due("PURLS of (p,k)" + n, x.many(5), n);
        }
        Due.due("60 times", Due.knit(60, "(p)60").work(0), 60);
        fault("(p)", 3);
        fault("(p),k", 3);
        fault("(p)0", 3);
        fault("(p)61", 3);
        fault("()2", 1);
    }

    private static void partTill() {
        Doc.says("or < PARTS > and a number (0 to 60) right behind: TILL so many are left.");
        for (int n = 0; n < 60; n++) {
            KnitReader x = Due.knit(60, "<p>" + n + (n == 0 ? "" : ",k" + n));
            Due.due("work of <p>" + n, x.work(0), 60);
            Due.due("KNITS behind <p>" + n, x.many(4), n);
        }
        Due.due("till 60 are left", Due.knit(60, "<p>60,k60").work(0), 60);
        fault("<p>", 3);
        fault("<p>,k", 3);
        fault("<p>61", 3);
        fault("<>2", 1);
    }

    private static void wordIsAsLong() {
        Doc.says("A WORD is as long as letters a .. z stand;");
        fault("kp", 0);
        fault("kk", 0);
        fault("yom", 0);
        fault("k,slk2", 2);
        fault("skt", 0);
        fault("ka", 0);
        fault("kz", 0);
        fault("az", 0);
        good("kt");
        good("k,t".replace(",t", ",kt"));
        fault("k`", 1);
        fault("k{", 1);
        fault("kT", 1);
    }

    private static void digits() {
        Doc.says("numbers have 1 or 2 digits (a third one can't stand there).");
        good("k1");
        good("k9");
        good("k10");
        good("k60");
        fault("k100", 3);
        fault("k123", 3);
        // two digits are a number, and of one that may not be the first byte comes ahead of the third digit
        fault("k610", 1);
        fault("k000", 1);
        fault("k/", 1);
        fault("k:", 1);
        fault("(k)100", 5);
        fault("<k>000", 5);
        fault("k,p111,k", 5);
    }

    private static void withinFourOthers() {
        Doc.says("( and < may stand within 4 others at most.");
        good("(((((k)2)2)2)2)2");
        good("<(<(<k>2)2>2)2>2");
        fault("((((((k)2)2)2)2)2)2", 5);
        fault("(<(<(<k>2)2>2)2>2)2", 5);
        fault("k,<<<<<(k)2>0>0>0>0>0", 7);
        good("(k)2,(k)2,(k)2,(k)2,(k)2,(k)2,<k>0");
    }

    private static void theFault() {
        Doc.says("The FAULT: the place of the first byte that can't stand there (of a WORD that there isn't, a number that may not be, the "
            + "first byte; a ( or < too deep); THE TAPE's size, if it ends too early.");
        fault("k2,?", 3);
        fault("k)2", 1);
        fault("(k>2", 2);
        fault("<k)2", 2);
        fault("(k)2)2", 4);
        fault("2k", 0);
        // the WORD comes first, whatever its number is
        fault("qq", 0);
        fault("qq0", 0);
        fault("qq61", 0);
        fault("qq123", 0);
        fault("k,knit77,p", 2);
        fault("k,p77,knit", 3);
        fault("(knit)0", 1);
        fault("(k)0,knit", 3);
        fault("(k,(p)61)0", 6);
        fault("(((((<knit>99", 5);
        fault("(((((", 5);
        fault("(k", 2);
        fault("(k)", 3);
        fault("<k,", 3);
        fault("<k>0,", 5);
    }

    private static void rowNumbers() {
        Doc.says("ROWS have numbers, 0 on, 20 at most. ```");
        KnitReader x = new KnitReader();
        for (int line = 0; line < 20; line++) {
            Due.due("ROW " + line, Due.tell(x, "k" + (line + 1)), line);
        }
        Due.due("a 21st ROW", Due.tell(x, "k"), Due.FULL);
        for (int line = 0; line < 20; line++) {
            Due.due("ROW " + line + " is of its number", x.fits(line), 1L << line + 1);
        }
    }
}
