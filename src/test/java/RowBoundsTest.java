import java.util.Set;

/** STITCHES AND ROWS, promises 9 to 12, 20 and 21: a test for each sentence that names a bound. */
public final class RowBoundsTest {
    private static final Set<String> WORDS = Set.of("k", "p", "sl", "yo", "m", "kt", "sk", "bo", "sd");

    public static void main(String[] args) {
        tapeHas250BytesAtMost();
        refusedByteStaysOut();
        feedTakes0To255();
        badByteAheadOfFullTape();
        wipeAnswersTheSizeAhead();
        noBlanks();
        partsAreOneOrMore();
        commasStandBetween();
        wordNumberIs1To60();
        timesNumberIs1To60();
        tillNumberIs0To60();
        numberStandsRightBehind();
        thirdDigitCannotStandThere();
        signsBesideTheDigits();
        wordIsAsLongAsLetters();
        everyFirstByte();
        everySecondByte();
        fourOthersAtMost();
        fifthOtherIsTheFault();
        othersThatAreOverDoNotCount();
        faultOfWordAndNumberIsTheirFirstByte();
        faultOfWhatEndsTooEarlyIsTheSize();
        closersAreOfTheirOwn();
        faultIsRefusedAsBad();
        tapeIsEmptyBehindLine();
        rowsAre20AtMost();
        faultComesAheadOfFull();
        dropDownToNone();
        partsOfLine();
        withinOfLine();
        sizeOfLine();
        tillOfLine();
        lineOfBounds();
        textBounds();
        droppedRowsAreNone();
        Due.end("RowBoundsTest");
    }

    private static void good(String text) {
        KnitReader x = new KnitReader();
        Due.due("line() of " + text, Due.tell(x, text), 0);
        Due.due("status(0) behind " + text, x.status(0), 1);
        Due.due("status(12) behind " + text, x.status(12), 0);
    }

    private static void fault(String text, int place) {
        KnitReader x = new KnitReader();
        Due.due("line() of " + text, Due.tell(x, text), -600 - place);
        Due.due("status(0) behind " + text, x.status(0), 0);
        Due.due("status(12) behind " + text, x.status(12), 1);
    }

    /** A good ROW of that size. */
    private static String long250(int size) {
        return size % 2 == 1 ? "k,".repeat(size / 2) + "k" : "k,".repeat(size / 2 - 1) + "sl";
    }

    /** THE TAPE (bytes, 250 at most). */
    private static void tapeHas250BytesAtMost() {
        for (int size = 248; size <= 250; size++) {
            KnitReader x = new KnitReader();
            String text = long250(size);
            for (int i = 0; i < size; i++) {
                Due.due("feed of byte " + i, x.feed(text.charAt(i)), i + 1);
            }
            Due.due("status(5)", x.status(5), size);
            Due.due("line() of " + size + " bytes", x.line(), 0);
            Due.due("lineOf(0, 2)", x.lineOf(0, 2), size);
        }
        KnitReader x = new KnitReader();
        Due.feed(x, long250(250));
        Due.refused(x, "a 251st byte", 0, x.feed('k'), Due.FULL);
        Due.refused(x, "a 251st byte again", 1, x.feed(0), Due.FULL);
        Due.due("status(5)", x.status(5), 250);
    }

    private static void refusedByteStaysOut() {
        KnitReader x = new KnitReader();
        Due.feed(x, long250(250));
        x.feed(',');
        x.feed(-1);
        Due.due("line() is as ahead of the refused ones", x.line(), 0);
        Due.due("text(0, 248)", x.text(0, 248), 's');
        Due.due("text(0, 249)", x.text(0, 249), 'l');
        Due.due("text(0, 250)", x.text(0, 250), -1);
        Due.feed(x, "p");
        x.feed(256);
        Due.feed(x, "2");
        Due.due("line() without the byte 256", x.line(), 1);
        Due.due("lineOf(1, 2)", x.lineOf(1, 2), 2);
    }

    private static void feedTakes0To255() {
        KnitReader x = new KnitReader();
        for (int letter = 0; letter < 250; letter++) {
            Due.due("feed(" + letter + ")", x.feed(letter), letter + 1);
        }
        x.wipe();
        for (int letter = 250; letter <= 255; letter++) {
            Due.due("feed(" + letter + ")", x.feed(letter), letter - 249);
        }
        int[] wrong = {-1, 256, -128, 363, 65535, Integer.MAX_VALUE, Integer.MIN_VALUE};
        for (int i = 0; i < wrong.length; i++) {
            Due.refused(x, "feed(" + wrong[i] + ")", i, x.feed(wrong[i]), Due.BAD);
        }
        Due.due("status(5)", x.status(5), 6);
    }

    private static void badByteAheadOfFullTape() {
        KnitReader x = new KnitReader();
        Due.feed(x, long250(250));
        Due.refused(x, "feed(256) on a full TAPE", 0, x.feed(256), Due.BAD);
        Due.refused(x, "feed(-1) on a full TAPE", 1, x.feed(-1), Due.BAD);
        Due.due("no FULL of it", x.status(16), 0);
    }

    private static void wipeAnswersTheSizeAhead() {
        KnitReader x = new KnitReader();
        Due.due("wipe() of an empty one", x.wipe(), 0);
        x.feed('k');
        Due.due("wipe() of one", x.wipe(), 1);
        Due.due("wipe() again", x.wipe(), 0);
        Due.feed(x, long250(250));
        Due.due("wipe() of a full one", x.wipe(), 250);
        Due.due("feed behind it", x.feed('p'), 1);
        Due.due("line() of the one byte", x.line(), 0);
        Due.due("text(0, 0)", x.text(0, 0), 'p');
    }

    private static void noBlanks() {
        fault(" ", 0);
        fault(" k", 0);
        fault("k ", 1);
        fault("k 2", 1);
        fault("k2 ", 2);
        fault("k2 ,p", 2);
        fault("k, p", 2);
        fault("s l", 0);
        fault("( k)2", 1);
        fault("(k )2", 2);
        fault("(k) 2", 3);
        fault("(k)2 ", 4);
        fault("< k>2", 1);
        fault("<k >2", 2);
        fault("<k> 2", 3);
        fault("k\t", 1);
        fault("k\n", 1);
        fault("k,\r", 2);
    }

    /** PARTS, one or more. */
    private static void partsAreOneOrMore() {
        fault("", 0);
        fault("()2", 1);
        fault("<>0", 1);
        fault("k,()2", 3);
        fault("(<>0)2", 2);
        fault("2", 0);
        good("k");
        good("(k)2");
        good("<k>0");
        good(long250(249));
    }

    private static void commasStandBetween() {
        good("k,p");
        good("(k,p)2,<p,k>3");
        fault(",", 0);
        fault(",k", 0);
        fault("k,", 2);
        fault("k,,p", 2);
        fault("k;p", 1);
        fault("k2p", 2);
        fault("k2(p)2", 2);
        fault("k(p)2", 1);
        fault("k<p>2", 1);
        fault("(k)2p", 4);
        fault("(k)2(p)2", 4);
        fault("<k>2<p>2", 4);
        fault("(,k)2", 1);
        fault("(k,)2", 3);
        fault("<k,>2", 3);
    }

    private static void numbersOf(String ahead, int least) {
        for (int n = 0; n <= 99; n++) {
            String two = n < 10 ? "0" + n : String.valueOf(n);
            if (n >= least && n <= 60) {
                good(ahead + n);
                good(ahead + two);
            } else {
                fault(ahead + n, ahead.length());
                fault(ahead + two, ahead.length());
            }
        }
    }

    /** A WORD, perhaps with a number (1 to 60). */
    private static void wordNumberIs1To60() {
        numbersOf("k", 1);
        numbersOf("p,sd", 1);
    }

    private static void timesNumberIs1To60() {
        numbersOf("(k)", 1);
    }

    private static void tillNumberIs0To60() {
        numbersOf("<k>", 0);
    }

    private static void numberStandsRightBehind() {
        good("k");
        fault("(k)", 3);
        fault("<k>", 3);
        fault("(k),p", 3);
        fault("<k>,p", 3);
        fault("((k))2", 4);
        fault("(k)k", 3);
        fault("<k>-1", 3);
        fault("(k)+1", 3);
        fault("k+1", 1);
    }

    /** Numbers have 1 or 2 digits; of a number that may not be the FAULT is ahead of its third digit. */
    private static void thirdDigitCannotStandThere() {
        fault("k100", 3);
        fault("k600", 3);
        fault("k011", 3);
        fault("sl123", 4);
        fault("(k)100", 5);
        fault("(k)600", 5);
        fault("<k>000", 5);
        fault("<k>100", 5);
        fault("(k2,p111)2", 7);
        fault("k610", 1);
        fault("k000", 1);
        fault("k001", 1);
        fault("(k)000", 3);
        fault("<k>610", 3);
        fault("k1000", 3);
    }

    /** The signs next to 0 and 9. */
    private static void signsBesideTheDigits() {
        fault("k/", 1);
        fault("k:", 1);
        fault("k1/", 2);
        fault("k1:", 2);
        fault("k12/", 3);
        fault("(k)/", 3);
        fault("(k):", 3);
        good("k9");
        good("<k>0");
    }

    /** A WORD is as long as letters a .. z stand. */
    private static void wordIsAsLongAsLetters() {
        for (char first = 'a'; first <= 'z'; first++) {
            spelled(String.valueOf(first));
            for (char second = 'a'; second <= 'z'; second++) {
                spelled("" + first + second);
            }
        }
        for (String word : WORDS) {
            spelled(word + "a");
            spelled(word + "z");
            spelled(word + word);
            fault("p," + word + "z2", 2);
            fault(word + "`", word.length());
            fault(word + "{", word.length());
            fault(word.toUpperCase(), 0);
        }
        fault("knit", 0);
        fault("a".repeat(250), 0);
    }

    private static void spelled(String word) {
        if (WORDS.contains(word)) {
            good(word);
        } else {
            fault(word, 0);
        }
    }

    private static void everyFirstByte() {
        for (int b = 0; b <= 255; b++) {
            String text = String.valueOf((char) b);
            if (WORDS.contains(text)) {
                good(text);
            } else {
                fault(text, b == '(' || b == '<' ? 1 : 0);
            }
        }
    }

    private static void everySecondByte() {
        for (int b = 0; b <= 255; b++) {
            String text = "k" + (char) b;
            if (b == 't' || b >= '1' && b <= '9') {
                good(text);
            } else if (b >= 'a' && b <= 'z') {
                fault(text, 0);
            } else {
                fault(text, b == ',' ? 2 : 1);
            }
        }
    }

    /** Openers of one in another, by the bits of a number, with what closes them. */
    private static String nested(int bits, int deep) {
        StringBuilder told = new StringBuilder();
        for (int i = 0; i < deep; i++) {
            told.append((bits & 1 << i) == 0 ? '(' : '<');
        }
        told.append('k');
        for (int i = deep - 1; i >= 0; i--) {
            told.append((bits & 1 << i) == 0 ? ")1" : ">1");
        }
        return told.toString();
    }

    /** ( and < may stand within 4 others at most. */
    private static void fourOthersAtMost() {
        for (int deep = 1; deep <= 5; deep++) {
            for (int bits = 0; bits < 1 << deep; bits++) {
                good(nested(bits, deep));
            }
        }
    }

    /** Too deep: the FAULT is the ( or < itself. */
    private static void fifthOtherIsTheFault() {
        for (int bits = 0; bits < 64; bits++) {
            fault(nested(bits, 6), 5);
        }
        fault(nested(0, 7), 5);
        fault("((((((", 5);
        fault("<<<<<(", 5);
        fault("(((((", 5);
        fault("p,(p,<p,(p,(p,(p,(k)1", 17);
        fault("(".repeat(250), 5);
    }

    private static void othersThatAreOverDoNotCount() {
        good("(k)1,<k>1,(k)1,<k>1,(k)1,(k)1,(k)1");
        good("(((((k)1,(k)1)1,((k)1)1)1)1)1,(((((k)1)1)1)1)1");
        fault("(((((k)1)1)1)1)1,((((((k)1)1)1)1)1)1", 22);
    }

    private static void faultOfWordAndNumberIsTheirFirstByte() {
        fault("k,qq", 2);
        fault("k,ktt2", 2);
        fault("(sl,kp)2", 4);
        fault("k,p61", 3);
        fault("k,sl60,sl99,k", 9);
        fault("(k,p)77", 5);
        fault("<k,p>61,k", 5);
        fault("(sl,kp2)2", 4);
        fault("(k,p612)2", 4);
        fault("((k,(sl,qq2)2)0)2", 8);
    }

    private static void faultOfWhatEndsTooEarlyIsTheSize() {
        String text = "(k2,<p,m3>7)5,k";
        for (int size = 0; size <= text.length(); size++) {
            if (size == 13 || size == 15) {
                good(text.substring(0, size));
            } else {
                fault(text.substring(0, size), size);
            }
        }
        fault("(" + long250(249), 250);
        fault(long250(249) + ",", 250);
    }

    private static void closersAreOfTheirOwn() {
        fault("(k>2", 2);
        fault("<k)2", 2);
        fault("(<k)2>2", 3);
        fault("k)2", 1);
        fault("k>2", 1);
        fault("(k)2)2", 4);
        fault("<k>2>2", 4);
        fault(")", 0);
        fault(">", 0);
    }

    /** -600 less the FAULT (that is refused, too: BAD). */
    private static void faultIsRefusedAsBad() {
        KnitReader x = new KnitReader();
        Due.due("line() of nothing", x.line(), -600);
        Due.due("BAD", x.status(12), 1);
        Due.due("line() of k,", Due.tell(x, "k,"), -602);
        Due.due("BAD", x.status(12), 2);
        Due.feed(x, long250(249));
        x.feed(',');
        Due.due("line() of 250 bytes", x.line(), -850);
        Due.due("BAD", x.status(12), 3);
        Due.due("no ROW", x.status(0), 0);
        for (int what = 13; what <= 16; what++) {
            Due.due("status(" + what + ")", x.status(what), 0);
        }
    }

    /** THE TAPE is empty then, in any case. */
    private static void tapeIsEmptyBehindLine() {
        KnitReader x = new KnitReader();
        Due.tell(x, "k");
        Due.due("behind a ROW", x.status(5), 0);
        Due.tell(x, "k,");
        Due.due("behind a FAULT", x.status(5), 0);
        for (int i = 1; i < 20; i++) {
            Due.tell(x, "p");
        }
        Due.due("FULL", Due.tell(x, "k"), Due.FULL);
        Due.due("behind FULL", x.status(5), 0);
        Due.due("line() behind FULL is of nothing", x.line(), -600);
        Due.due("feed begins anew", x.feed('k'), 1);
    }

    /** ROWS have numbers, 0 on, 20 at most. */
    private static void rowsAre20AtMost() {
        KnitReader x = new KnitReader();
        for (int i = 0; i < 20; i++) {
            Due.due("status(0)", x.status(0), i);
            Due.due("ROW " + i, Due.tell(x, "k" + (i + 1)), i);
        }
        x.feed('p');
        Due.refused(x, "a 21st ROW", 0, x.line(), Due.FULL);
        x.feed('p');
        Due.refused(x, "a 21st ROW again", 1, x.line(), Due.FULL);
        Due.due("status(0)", x.status(0), 20);
        for (int i = 0; i < 20; i++) {
            Due.due("hitch(" + i + ", " + (i + 1) + ")", x.hitch(i, i + 1), -1);
        }
        Due.due("drop()", x.drop(), 19);
        Due.due("room for one", Due.tell(x, "p"), 19);
        Due.due("text(19, 0)", x.text(19, 0), 'p');
        Due.due("and no more", Due.tell(x, "p"), Due.FULL);
    }

    /** FULL: no FAULT, but no room. */
    private static void faultComesAheadOfFull() {
        KnitReader x = new KnitReader();
        for (int i = 0; i < 20; i++) {
            Due.tell(x, "k");
        }
        Due.due("a FAULT without room", Due.tell(x, "k0"), -601);
        Due.due("BAD", x.status(12), 1);
        Due.due("no FULL", x.status(16), 0);
        Due.due("nothing without room", x.line(), -600);
        Due.due("no FAULT", Due.tell(x, "k1"), Due.FULL);
        Due.due("BAD", x.status(12), 2);
        Due.due("FULL", x.status(16), 1);
    }

    private static void dropDownToNone() {
        KnitReader x = new KnitReader();
        Due.refused(x, "drop() of none", 0, x.drop(), Due.STUCK);
        for (int i = 0; i < 20; i++) {
            Due.tell(x, "k");
        }
        for (int left = 19; left >= 0; left--) {
            Due.due("drop()", x.drop(), left);
        }
        Due.refused(x, "drop() of none again", 1, x.drop(), Due.STUCK);
        Due.due("the next is 0", Due.tell(x, "p"), 0);
    }

    private static int ofLine(String text, int what) {
        return Due.knit(0, "k", text, "p").lineOf(1, what);
    }

    private static void partsOfLine() {
        Due.due("one WORD", ofLine("k60", 0), 1);
        Due.due("a ( ) and its WORD", ofLine("(k)60", 0), 2);
        Due.due("five in one another", ofLine(nested(0, 5), 0), 6);
        Due.due("within others, too", ofLine("k,(p,<k,m>0)2,sl", 0), 7);
        Due.due("250 bytes", ofLine(long250(250), 0), 125);
        Due.due("249 bytes", ofLine(long250(249), 0), 125);
    }

    private static void withinOfLine() {
        Due.due("within none", ofLine("k,p", 1), 0);
        for (int deep = 1; deep <= 5; deep++) {
            Due.due("within " + deep, ofLine(nested(0, deep), 1), deep);
            Due.due("within " + deep + ", the most", ofLine("(k)2," + nested(31, deep) + ",k", 1), deep);
        }
    }

    private static void sizeOfLine() {
        Due.due("one byte", ofLine("k", 2), 1);
        Due.due("250 bytes", ofLine(long250(250), 2), 250);
        Due.due("digits count as they stand", ofLine("k05,<k>00", 2), 9);
    }

    private static void tillOfLine() {
        Due.due("none", ofLine("(k)2,p", 3), 0);
        Due.due("one", ofLine("<k>2", 3), 1);
        Due.due("two", ofLine("<k>2,<p>0", 3), 1);
        Due.due("the innermost", ofLine(nested(16, 5), 3), 1);
    }

    private static void lineOfBounds() {
        KnitReader x = Due.knit(0, "k", "p");
        int[] lines = {-1, 2, 3, 19, 20, 21, Integer.MAX_VALUE, Integer.MIN_VALUE};
        for (int i = 0; i < lines.length; i++) {
            Due.refused(x, "lineOf(" + lines[i] + ", 0)", i, x.lineOf(lines[i], 0), Due.BAD);
        }
        int[] whats = {-1, 4, 5, Integer.MAX_VALUE, Integer.MIN_VALUE};
        for (int i = 0; i < whats.length; i++) {
            Due.refused(x, "lineOf(0, " + whats[i] + ")", lines.length + i, x.lineOf(0, whats[i]), Due.BAD);
        }
        for (int what = 0; what < 4; what++) {
            Due.due("lineOf(1, " + what + ")", x.lineOf(1, what), what == 0 || what == 2 ? 1 : 0);
        }
    }

    private static void textBounds() {
        KnitReader x = Due.knit(0, "k2", long250(250));
        int[] none = {-1, 2, 3, 249, 250, Integer.MAX_VALUE, Integer.MIN_VALUE};
        for (int i : none) {
            Due.due("text(0, " + i + ")", x.text(0, i), -1);
        }
        Due.due("text(1, 249)", x.text(1, 249), 'l');
        Due.due("text(1, 250)", x.text(1, 250), -1);
        Due.due("NONE isn't refused", x.status(12), 0);
        int[] lines = {-1, 2, 3, 19, 20, Integer.MAX_VALUE, Integer.MIN_VALUE};
        for (int i = 0; i < lines.length; i++) {
            Due.refused(x, "text(" + lines[i] + ", 0)", i, x.text(lines[i], 0), Due.BAD);
        }
        Due.refused(x, "BAD, though there is no such byte", lines.length, x.text(2, -1), Due.BAD);
    }

    /** What was dropped can't be asked or worked, the last of them or those behind it. */
    private static void droppedRowsAreNone() {
        KnitReader x = Due.knit(1, "k", "p", "sl", "k1");
        x.drop();
        x.drop();
        x.drop();
        int refused = 0;
        for (int line = 1; line <= 3; line++) {
            Due.refused(x, "lineOf(" + line + ", 0)", refused++, x.lineOf(line, 0), Due.BAD);
            Due.refused(x, "text(" + line + ", 0)", refused++, x.text(line, 0), Due.BAD);
            Due.refused(x, "work(" + line + ")", refused++, x.work(line), Due.BAD);
            Due.refused(x, "run(0, " + line + ", 1)", refused++, x.run(0, line, 1), Due.BAD);
            Due.refused(x, "would(" + line + ", 1, 0)", refused++, x.would(line, 1, 0), Due.BAD);
            Due.refused(x, "hitch(" + line + ", 1)", refused++, x.hitch(line, 1), Due.BAD);
            Due.refused(x, "times(0, " + line + ")", refused++, x.times(0, line), Due.BAD);
            Due.due("fits(" + line + ")", x.fits(line), -92 - Due.FAR);
            refused++;
        }
        Due.due("BAD in all", x.status(12), refused);
        Due.due("work(0)", x.work(0), 1);
    }
}
