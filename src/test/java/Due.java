/** What the tests share: the counting of wrong answers, and telling ROWS letter by letter. */
final class Due {
    static final int BAD = -92;
    static final int OTHER = -93;
    static final int NOTHING = -94;
    static final int STUCK = -95;
    static final int FULL = -96;
    static final long FAR = 9_000_000_000_000_000_000L;

    private static int wrong;
    private static int asked;

    private Due() {
    }

    static void due(String call, long got, long want) {
        asked++;
        if (got != want) {
            wrong++;
            System.out.println(call + " answered " + got + ", due is " + want);
        }
    }

    /** Letters of a text come to THE TAPE. */
    static void feed(KnitReader x, String text) {
        for (int i = 0; i < text.length(); i++) {
            x.feed(text.charAt(i));
        }
    }

    /** A text told as a ROW: what line() answers. */
    static int tell(KnitReader x, String text) {
        feed(x, text);
        return x.line();
    }

    /** A new object with these ROWS, and n on the needle (0: none). */
    static KnitReader knit(int n, String... rows) {
        KnitReader x = new KnitReader();
        for (int i = 0; i < rows.length; i++) {
            due("line() of " + rows[i], tell(x, rows[i]), i);
        }
        if (n > 0) {
            due("cast(" + n + ")", x.cast(n), n);
        }
        return x;
    }

    /** A call was refused with a number, and counted. */
    static void refused(KnitReader x, String call, int before, long got, int number) {
        due(call, got, number);
        due(call + ": status of " + number, x.status(-80 - number), before + 1);
    }

    static void whyIs(KnitReader x, String when, int... numbers) {
        due(when + ": causes()", x.causes(), numbers.length / 3);
        for (int i = 0; i < numbers.length; i++) {
            due(when + ": why(" + i / 3 + ", " + i % 3 + ")", x.why(i / 3, i % 3), numbers[i]);
        }
    }

    static void end(String name) {
        System.out.println(name + ": " + asked + " answers, " + wrong + " not as due");
        if (wrong != 0 || asked == 0) {
            System.exit(1);
        }
    }
}
