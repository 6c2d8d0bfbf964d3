import java.util.Arrays;

/**
 * A reader of knitting. The words in capitals are the document's own (DOC.md tells them);
 * each public method is the promise of that name there.
 */
public final class KnitReader {
    public static final int NONE = -1;

    private static final int BAD = -92;
    private static final int OTHER = -93;
    private static final int NOTHING = -94;
    private static final int STUCK = -95;
    private static final int FULL = -96;
    private static final int REFUSAL_SORTS = 5;
    private static final int FAULT_BASE = -600;
    private static final long LONG_REFUSAL_BASE = -9_000_000_000_000_000_000L;

    private static final int MOST_LINES = 20;
    private static final int MOST_BYTES = 250;
    private static final int MOST_OTHERS = 4;
    private static final int MOST_NUMBER = 60;
    private static final int MOST_ON_NEEDLE = 60;
    private static final int MOST_IN_ROW = 200;
    private static final int MOST_WORKED = 50;
    private static final int MOST_RUNS = 20;
    private static final int MOST_DAYS = 60;
    private static final int MOST_SHELVES = 8;
    private static final int MOST_ELEMENTS = 40;
    private static final int FIRST_REFUSAL_STATUS = 12;

    private static final int FLAT = 0;
    private static final int ROUND = 1;
    private static final int RIGHT_SIDE = 0;
    private static final int WRONG_SIDE = 1;

    private static final int NO_HITCH = 0;
    private static final int SHORT = 1;
    private static final int WIDE = 2;
    private static final int LONG = 3;
    private static final int IDLE = 4;
    private static final int PAST = 5;
    private static final int OVERLEFT = 6;
    private static final int FILLED = 7;

    private final State now = new State();
    private final State kept = new State();
    private boolean isKept;
    private final int[] tape = new int[MOST_BYTES];
    private int tapeSize;
    private final Shelf[] shelves = new Shelf[MOST_SHELVES];
    private final Pass pass = new Pass();
    private final Chain latest = new Chain();
    private final int[] refusals = new int[REFUSAL_SORTS];

    public KnitReader() {
        for (int s = 0; s < shelves.length; s++) {
            shelves[s] = new Shelf();
        }
    }

    // ---- SHELVES ----

    public int row(int s, int sort, int n) {
        Shelf shelf = shelfAt(s);
        if (shelf == null || !Shelf.isSort(sort) || n < 0 || n > MOST_ELEMENTS) {
            return refuse(BAD);
        }
        shelf.putRow(sort, n);
        return 1;
    }

    public int set(int s, int i, long v) {
        Shelf shelf = shelfAt(s);
        if (shelf == null) {
            return refuse(BAD);
        }
        if (!shelf.hasRow()) {
            return refuse(shelf.isBare() ? NOTHING : OTHER);
        }
        return shelf.putElement(i, v) ? 1 : refuse(BAD);
    }

    public int copy(int p, int q, int i, int j, int n) {
        Shelf from = shelfAt(p);
        Shelf to = shelfAt(q);
        if (from == null || to == null) {
            return refuse(BAD);
        }
        if (from.hasStitch() || to.hasStitch()) {
            return refuse(OTHER);
        }
        if (from.isBare() || to.isBare()) {
            return refuse(NOTHING);
        }
        if (from.held != to.held) {
            return refuse(OTHER);
        }
        return from.giveElements(i, to, j, n) ? n : refuse(BAD);
    }

    public long element(int s, int i) {
        Shelf shelf = shelfAt(s);
        return shelf == null ? 0 : shelf.elementAt(i);
    }

    public int holds(int s) {
        Shelf shelf = shelfAt(s);
        return shelf == null ? NONE : shelf.held;
    }

    public int show(int s, int worked, int i) {
        Shelf shelf = shelfAt(s);
        if (shelf == null) {
            return refuse(BAD);
        }
        if (worked == NONE) {
            shelf.putNothing();
            return 1;
        }
        Done done = now.doneAt(worked);
        if (done == null || !done.stitches.hasPlace(i)) {
            return refuse(BAD);
        }
        shelf.putStitch(done.stitches.kindAt(i));
        return 1;
    }

    public int says(int s, int kind) {
        Shelf shelf = shelfAt(s);
        if (shelf == null || !Kinds.isKind(kind)) {
            return refuse(BAD);
        }
        if (shelf.isBare()) {
            return refuse(NOTHING);
        }
        int own = shelf.stitchKind();
        return Kinds.isUnder(own, kind) ? Kinds.saying(own, kind) : refuse(OTHER);
    }

    // ---- THE TAPE and ROWS ----

    public int feed(int letter) {
        if (letter < 0 || letter > 255) {
            return refuse(BAD);
        }
        if (tapeSize < 0 || tapeSize >= tape.length) {
            return refuse(FULL);
        }
        tape[tapeSize] = letter;
        tapeSize++;
        return tapeSize;
    }

    public int wipe() {
        int ahead = tapeSize;
        tapeSize = 0;
        return ahead;
    }

    public int line() {
        Line read = new Line(tape, tapeSize);
        read.readText();
        tapeSize = 0;
        if (read.fault != NONE) {
            refuse(BAD);
            return FAULT_BASE - read.fault;
        }
        return now.addLine(read) ? now.lineCount - 1 : refuse(FULL);
    }

    public int drop() {
        return now.dropLine() ? now.lineCount : refuse(STUCK);
    }

    public int lineOf(int line, int what) {
        Line asked = now.lineAt(line);
        if (asked == null) {
            return refuse(BAD);
        }
        switch (what) {
            case 0: return asked.parts;
            case 1: return asked.deepest;
            case 2: return asked.size();
            case 3: return asked.hasTill ? 1 : 0;
            default: return refuse(BAD);
        }
    }

    public int text(int line, int i) {
        Line asked = now.lineAt(line);
        return asked == null ? refuse(BAD) : asked.byteAt(i);
    }

    // ---- WORKING ----

    public int mode(int v) {
        if (v != FLAT && v != ROUND) {
            return refuse(BAD);
        }
        if (now.doneCount > 0) {
            return refuse(STUCK);
        }
        int ahead = now.mode;
        now.mode = v;
        return ahead;
    }

    public int cast(int n) {
        if (n < 1 || n > MOST_ON_NEEDLE) {
            return refuse(BAD);
        }
        if (now.needle > 0 || now.doneCount > 0) {
            return refuse(STUCK);
        }
        now.needle = n;
        now.side = RIGHT_SIDE;
        return n;
    }

    public int work(int line) {
        Line told = now.lineAt(line);
        if (told == null) {
            return refuse(BAD);
        }
        if (!workInTruth(told, line)) {
            latest.begin();
            keepWhy(line);
            return refuse(STUCK);
        }
        return now.needle;
    }

    public int run(int from, int to, int n) {
        if (!now.isSpan(from, to) || n < 1 || n > MOST_RUNS) {
            return refuse(BAD);
        }
        int worked = 0;
        for (int time = 1; time <= n; time++) {
            for (int line = from; line <= to; line++) {
                Line told = now.lineAt(line);
                if (told == null || !workInTruth(told, line)) {
                    latest.begin();
                    latest.addLink(Chain.RUN, time, line);
                    keepWhy(line);
                    return refuse(STUCK);
                }
                worked++;
            }
        }
        return worked;
    }

    public int rip(int n) {
        if (n < 1 || n > now.doneCount) {
            return refuse(BAD);
        }
        now.ripBack(n);
        return now.doneCount;
    }

    public int causes() {
        return latest.links;
    }

    public int why(int i, int what) {
        return latest.hasNumber(i, what) ? latest.numberAt(i, what) : refuse(BAD);
    }

    // ---- in thought ----

    public int would(int line, int n, int what) {
        Line told = now.lineAt(line);
        if (told == null || n < 0 || n > MOST_ON_NEEDLE || what < 0 || what > 2) {
            return refuse(BAD);
        }
        pass.workLine(told, n);
        if (pass.isHitched()) {
            return NONE;
        }
        switch (what) {
            case 0: return pass.made;
            case 1: return pass.stitches.size;
            default: return pass.stitches.yarnUsed();
        }
    }

    public int hitch(int line, int n) {
        Line told = now.lineAt(line);
        if (told == null || n < 0 || n > MOST_ON_NEEDLE) {
            return refuse(BAD);
        }
        pass.workLine(told, n);
        return pass.isHitched() ? pass.hitch : NONE;
    }

    public long fits(int line) {
        Line told = now.lineAt(line);
        if (told == null) {
            return refuseLong(BAD);
        }
        long counts = 0;
        for (int n = 0; n <= MOST_ON_NEEDLE; n++) {
            pass.workLine(told, n);
            if (!pass.isHitched()) {
                counts |= 1L << n;
            }
        }
        return counts;
    }

    public int least() {
        for (int n = 0; n <= MOST_ON_NEEDLE; n++) {
            if (countBehind(0, now.lineCount - 1, n) != NONE) {
                return n;
            }
        }
        return NONE;
    }

    public int times(int from, int to) {
        if (!now.isSpan(from, to)) {
            return refuse(BAD);
        }
        int room = MOST_WORKED - now.doneCount;
        int each = to - from + 1;
        int needle = now.needle;
        int whole = 0;
        while (whole < MOST_WORKED && (whole + 1) * each <= room) {
            needle = countBehind(from, to, needle);
            if (needle == NONE) {
                return whole;
            }
            whole++;
        }
        return whole;
    }

    // ---- WORKED ROWS ----

    public int workedOf(int worked, int what) {
        Done done = now.doneAt(worked);
        if (done == null) {
            return refuse(BAD);
        }
        Stitches stitches = done.stitches;
        switch (what) {
            case 0: return done.side;
            case 1: return stitches.size;
            case 2: return stitches.takenAhead(stitches.size);
            case 3: return stitches.madeAhead(stitches.size);
            case 4: return stitches.yarnUsed();
            case 5: return done.line;
            default: return refuse(BAD);
        }
    }

    public int stitch(int worked, int i, int what) {
        Done done = now.doneAt(worked);
        if (done == null || !done.stitches.hasPlace(i)) {
            return refuse(BAD);
        }
        switch (what) {
            case 0: return done.stitches.kindAt(i);
            case 1: return done.stitches.takenAhead(i);
            case 2: return done.stitches.madeAhead(i);
            default: return refuse(BAD);
        }
    }

    public int chart(int worked, int column) {
        Done done = now.doneAt(worked);
        return done == null ? refuse(BAD) : done.chartAt(column);
    }

    public int shorthand(int worked, int i) {
        Done done = now.doneAt(worked);
        return done == null ? refuse(BAD) : done.stitches.shorthandAt(i);
    }

    public int unit(int worked) {
        Done done = now.doneAt(worked);
        return done == null ? refuse(BAD) : done.stitches.smallestPart();
    }

    public int mirrored(int worked, int i) {
        Done done = now.doneAt(worked);
        return done == null ? refuse(BAD) : done.stitches.mirroredAt(i);
    }

    public int even(int worked) {
        Done done = now.doneAt(worked);
        if (done == null) {
            return refuse(BAD);
        }
        return done.stitches.isEven() ? 1 : 0;
    }

    public long roots(int worked, int j) {
        Done done = now.doneAt(worked);
        if (done == null || j < 0 || j >= done.stitches.madeAhead(done.stitches.size)) {
            return refuseLong(BAD);
        }
        return done.stitches.rootsOf(1L << j);
    }

    public long origin(int j) {
        if (j < 0 || j >= now.needle) {
            return refuseLong(BAD);
        }
        return now.placesAtFirst(j);
    }

    public long yarn() {
        long sum = 0;
        for (int worked = 0; worked < now.doneCount; worked++) {
            Done done = now.doneAt(worked);
            sum += done == null ? 0 : done.stitches.yarnUsed();
        }
        return sum;
    }

    public int many(int kind) {
        if (!Kinds.isKind(kind)) {
            return refuse(BAD);
        }
        int sum = 0;
        for (int worked = 0; worked < now.doneCount; worked++) {
            Done done = now.doneAt(worked);
            sum += done == null ? 0 : done.stitches.countUnder(kind);
        }
        return sum;
    }

    public int differ(int worked, int other) {
        Done done = now.doneAt(worked);
        Done against = now.doneAt(other);
        if (done == null || against == null) {
            return refuse(BAD);
        }
        int most = Math.max(done.stitches.size, against.stitches.size);
        for (int column = 0; column < most; column++) {
            if (done.chartAt(column) != against.chartAt(column)) {
                return column;
            }
        }
        return NONE;
    }

    public int judge(int worked, int s, int n) {
        Done done = now.doneAt(worked);
        Shelf shelf = shelfAt(s);
        if (done == null || shelf == null || n < 0 || n > MOST_ELEMENTS) {
            return refuse(BAD);
        }
        if (!shelf.hasRow()) {
            return refuse(shelf.isBare() ? NOTHING : OTHER);
        }
        if (shelf.size < n) {
            return refuse(BAD);
        }
        for (int i = 0; i < n; i++) {
            // behind the last STITCH there is none, whatever the element tells
            if (!done.stitches.hasPlace(i) || shelf.elementAt(i) != done.stitches.kindAt(i)) {
                return i;
            }
        }
        return done.stitches.size > n ? n : NONE;
    }

    // ---- draws, what is kept, status ----

    public int days(int n) {
        if (n < 1 || n > MOST_DAYS) {
            return refuse(BAD);
        }
        if (now.lineCount == 0) {
            return refuse(STUCK);
        }
        int worked = 0;
        for (int day = 0; day < n; day++) {
            int drawn = now.drawBelow(now.lineCount);
            Line told = now.lineAt(drawn);
            if (told != null && workInTruth(told, drawn)) {
                worked++;
            } else {
                now.ripBack(1);
            }
        }
        return worked;
    }

    public int seed(int v) {
        int ahead = now.seed;
        now.seed = v;
        return ahead;
    }

    public int image() {
        kept.takeFrom(now);
        isKept = true;
        return 1;
    }

    public int back() {
        if (!isKept) {
            return refuse(STUCK);
        }
        now.takeFrom(kept);
        return 1;
    }

    public int status(int what) {
        switch (what) {
            case 0: return now.lineCount;
            case 1: return now.doneCount;
            case 2: return now.needle;
            case 3: return now.side;
            case 4: return now.mode;
            case 5: return tapeSize;
            case 6: return now.seed;
            case 7: return shelvesInUse();
            default: return refusalsOf(what - FIRST_REFUSAL_STATUS);
        }
    }

    // ---- what several promises share ----

    private int refuse(int number) {
        int sort = BAD - number;
        if (sort >= 0 && sort < refusals.length) {
            refusals[sort]++;
        }
        return number;
    }

    private long refuseLong(int number) {
        return LONG_REFUSAL_BASE + refuse(number);
    }

    private int refusalsOf(int sort) {
        return sort >= 0 && sort < refusals.length ? refusals[sort] : NONE;
    }

    private Shelf shelfAt(int s) {
        return s >= 0 && s < shelves.length ? shelves[s] : null;
    }

    private int shelvesInUse() {
        int sum = 0;
        for (int s = 0; s < shelves.length; s++) {
            sum += holds(s) == NONE ? 0 : 1;
        }
        return sum;
    }

    /** Whether the ROW was WORKED; if not, pass tells the HITCH. */
    private boolean workInTruth(Line told, int number) {
        if (now.doneCount >= MOST_WORKED) {
            pass.stopFilled(now.needle);
            return false;
        }
        pass.workLine(told, now.needle);
        return !pass.isHitched() && now.addDone(pass, number);
    }

    /** Links of a ROW and all in it; a RUN's own stands ahead of them already. */
    private void keepWhy(int line) {
        latest.addLink(Chain.ROW, line, pass.stitches.size);
        for (int depth = 0; depth < pass.within; depth++) {
            latest.addLink(Chain.GROUP, pass.groupPlaceAt(depth), pass.groupTimeAt(depth));
        }
        latest.addLink(pass.hitch, pass.hitchPlace, pass.left);
    }

    /** How many there would be behind ROWS from one to another one, in thought; NONE: a HITCH. */
    private int countBehind(int from, int to, int n) {
        int needle = n;
        for (int line = from; line <= to; line++) {
            Line told = now.lineAt(line);
            if (told == null) {
                return NONE;
            }
            pass.workLine(told, needle);
            if (pass.isHitched()) {
                return NONE;
            }
            needle = pass.made;
        }
        return needle;
    }

    /** What the document tells of each KIND, by its number. */
    private static final class Kinds {
        private static final int STITCH = 0;
        private static final int PLAIN = 1;
        private static final int GAIN = 2;
        private static final int LOSS = 3;
        private static final int KNIT = 4;
        private static final int PURL = 5;
        private static final int SLIP = 6;
        private static final int OVER = 7;
        private static final int LIFT = 8;
        private static final int RIGHT = 9;
        private static final int LEFT = 10;
        private static final int OFF = 11;
        private static final int DOUBLE = 12;
        private static final int MOST_LEVELS = 4;
        private static final int[] ABOVE = {
            NONE, STITCH, STITCH, STITCH, PLAIN, PLAIN, PLAIN, GAIN, GAIN, LOSS, LOSS, LOSS, LEFT
        };
        private static final int[] TAKES = {0, 0, 0, 0, 1, 1, 1, 0, 0, 2, 2, 1, 3};
        private static final int[] MAKES = {0, 0, 0, 0, 1, 1, 1, 1, 1, 1, 1, 0, 1};
        private static final int[] YARN = {0, 0, 0, 0, 10, 11, 4, 13, 9, 12, 14, 15, 18};

        static boolean isKind(int kind) {
            return kind >= STITCH && kind <= DOUBLE;
        }

        static int takenBy(int kind) {
            return kind >= 0 && kind < TAKES.length ? TAKES[kind] : 0;
        }

        static int madeBy(int kind) {
            return kind >= 0 && kind < MAKES.length ? MAKES[kind] : 0;
        }

        static int yarnOf(int kind) {
            return kind >= 0 && kind < YARN.length ? YARN[kind] : 0;
        }

        /** Whether a KIND is that one, or under it. */
        static boolean isUnder(int kind, int top) {
            int at = kind;
            for (int level = 0; level < MOST_LEVELS && isKind(at); level++) {
                if (at == top) {
                    return true;
                }
                at = at < ABOVE.length ? ABOVE[at] : NONE;
            }
            return false;
        }

        static int mirroredTo(int kind) {
            switch (kind) {
                case RIGHT: return LEFT;
                case LEFT: return RIGHT;
                default: return kind;
            }
        }

        static int turnedTo(int kind) {
            switch (kind) {
                case KNIT: return PURL;
                case PURL: return KNIT;
                default: return mirroredTo(kind);
            }
        }

        static int saying(int own, int taken) {
            switch (taken) {
                case STITCH: return yarnOf(own);
                case PLAIN: return 1;
                case GAIN: return madeBy(own);
                case LOSS: return takenBy(own) - madeBy(own);
                case SLIP: return 4;
                case OVER:
                case LIFT: return own;
                case OFF: return 0;
                case DOUBLE: return 2;
                default: return turnedTo(own);
            }
        }

        static String wordOf(int kind) {
            switch (kind) {
                case KNIT: return "k";
                case PURL: return "p";
                case SLIP: return "sl";
                case OVER: return "yo";
                case LIFT: return "m";
                case RIGHT: return "kt";
                case LEFT: return "sk";
                case OFF: return "bo";
                case DOUBLE: return "sd";
                default: return "";
            }
        }
    }

    /** A ROW as it is told: its text, and its PARTS in the order in which they begin. */
    private static final class Line {
        /** Sorts of PARTS beside the KINDS of STITCHES. */
        private static final int TIMES = 1;
        private static final int TILL = 2;

        private final int[] bytes;
        private final int[] sorts;
        private final int[] places;
        private final int[] numbers;
        private final int[] ends;
        private int parts;
        private int deepest;
        private boolean hasTill;
        private int at;
        private int fault = NONE;

        Line(int[] tape, int size) {
            int kept = Math.max(0, Math.min(size, tape.length));
            bytes = Arrays.copyOf(tape, kept);
            // a PART has a byte of its own, so there are never more of them than bytes
            sorts = new int[kept];
            places = new int[kept];
            numbers = new int[kept];
            ends = new int[kept];
        }

        int size() {
            return bytes.length;
        }

        int byteAt(int i) {
            return i >= 0 && i < bytes.length ? bytes[i] : NONE;
        }

        int sortOf(int part) {
            return part >= 0 && part < sorts.length ? sorts[part] : NONE;
        }

        int placeOf(int part) {
            return part >= 0 && part < places.length ? places[part] : 0;
        }

        int numberOf(int part) {
            return part >= 0 && part < numbers.length ? numbers[part] : 0;
        }

        /** The PART behind this one and all that stands in it. */
        int endOf(int part) {
            return part >= 0 && part < ends.length ? ends[part] : parts;
        }

        void readText() {
            readParts(0);
            if (fault == NONE && at < bytes.length) {
                fault = at;
            }
        }

        /** Depth: within how many others these PARTS stand. */
        private void readParts(int depth) {
            readPart(depth);
            for (int comma = 0; comma < bytes.length; comma++) {
                if (fault != NONE || byteAt(at) != ',') {
                    return;
                }
                at++;
                readPart(depth);
            }
        }

        private void readPart(int depth) {
            int sign = byteAt(at);
            if (isLetter(sign)) {
                readWord(depth);
            } else if (sign == '(') {
                readGroup(TIMES, ')', 1, depth);
            } else if (sign == '<') {
                hasTill = true;
                readGroup(TILL, '>', 0, depth);
            } else {
                fault = at;
            }
        }

        private void readWord(int depth) {
            int from = at;
            while (at < bytes.length && isLetter(byteAt(at))) {
                at++;
            }
            int kind = kindSpelled(from, at);
            if (kind == NONE) {
                fault = from;
                return;
            }
            int part = openPart(kind, from, depth);
            closePart(part, isDigit(byteAt(at)) ? readNumber(1) : 1);
        }

        private void readGroup(int sort, int closer, int lowest, int depth) {
            if (depth > MOST_OTHERS) {
                fault = at;
                return;
            }
            int part = openPart(sort, at, depth);
            at++;
            readParts(depth + 1);
            if (fault != NONE) {
                return;
            }
            if (byteAt(at) != closer) {
                fault = at;
                return;
            }
            at++;
            closePart(part, readNumber(lowest));
        }

        /** A third digit is left where it stands: nothing that comes behind a number takes it. */
        private int readNumber(int lowest) {
            int from = at;
            int value = 0;
            while (at < from + 2 && isDigit(byteAt(at))) {
                value = value * 10 + byteAt(at) - '0';
                at++;
            }
            if (at == from || value < lowest || value > MOST_NUMBER) {
                fault = from;
            }
            return value;
        }

        private int openPart(int sort, int place, int depth) {
            int part = parts;
            if (part >= 0 && part < sorts.length && part < places.length) {
                sorts[part] = sort;
                places[part] = place;
                parts++;
            }
            deepest = Math.max(deepest, depth);
            return part;
        }

        private void closePart(int part, int number) {
            if (part >= 0 && part < numbers.length && part < ends.length) {
                numbers[part] = number;
                ends[part] = parts;
            }
        }

        private int kindSpelled(int from, int to) {
            for (int kind = Kinds.KNIT; kind <= Kinds.DOUBLE; kind++) {
                if (isSpelled(Kinds.wordOf(kind), from, to)) {
                    return kind;
                }
            }
            return NONE;
        }

        private boolean isSpelled(String word, int from, int to) {
            if (word.length() != to - from || from < 0 || to > bytes.length) {
                return false;
            }
            for (int i = 0; i < word.length(); i++) {
                if (word.charAt(i) != bytes[from + i]) {
                    return false;
                }
            }
            return true;
        }

        private static boolean isLetter(int sign) {
            return sign >= 'a' && sign <= 'z';
        }

        private static boolean isDigit(int sign) {
            return sign >= '0' && sign <= '9';
        }
    }

    /** STITCHES in the order worked, and what can be told of them alone. */
    private static final class Stitches {
        private final int[] kinds = new int[MOST_IN_ROW];
        private int size;

        void takeFrom(Stitches other) {
            int room = Math.min(kinds.length, other.kinds.length);
            size = Math.max(0, Math.min(other.size, room));
            System.arraycopy(other.kinds, 0, kinds, 0, size);
        }

        void addKind(int kind) {
            if (size >= 0 && size < kinds.length) {
                kinds[size] = kind;
                size++;
            }
        }

        boolean hasPlace(int i) {
            return i >= 0 && i < size && i < kinds.length;
        }

        int kindAt(int i) {
            return hasPlace(i) ? kinds[i] : NONE;
        }

        int takenAhead(int i) {
            int sum = 0;
            for (int k = 0; k < i && k < size; k++) {
                sum += Kinds.takenBy(kindAt(k));
            }
            return sum;
        }

        int madeAhead(int i) {
            int sum = 0;
            for (int k = 0; k < i && k < size; k++) {
                sum += Kinds.madeBy(kindAt(k));
            }
            return sum;
        }

        int yarnUsed() {
            int sum = 0;
            for (int i = 0; i < size; i++) {
                sum += Kinds.yarnOf(kindAt(i));
            }
            return sum;
        }

        int countUnder(int top) {
            int sum = 0;
            for (int i = 0; i < size; i++) {
                sum += Kinds.isUnder(kindAt(i), top) ? 1 : 0;
            }
            return sum;
        }

        int mirroredAt(int i) {
            return Kinds.mirroredTo(kindAt(size - 1 - i));
        }

        boolean isEven() {
            for (int i = 0; i < size; i++) {
                if (kindAt(i) != mirroredAt(i)) {
                    return false;
                }
            }
            return true;
        }

        int smallestPart() {
            for (int n = 1; n < size; n++) {
                if (size % n == 0 && comesAgain(n)) {
                    return n;
                }
            }
            return size;
        }

        private boolean comesAgain(int n) {
            for (int i = n; i < size; i++) {
                if (kindAt(i) != kindAt(i - n)) {
                    return false;
                }
            }
            return true;
        }

        int shorthandAt(int i) {
            if (i < 0) {
                return NONE;
            }
            int left = i;
            for (int from = 0; from < size; from++) {
                if (from > 0 && kindAt(from) == kindAt(from - 1)) {
                    continue;
                }
                if (from > 0) {
                    if (left == 0) {
                        return ',';
                    }
                    left--;
                }
                String word = Kinds.wordOf(kindAt(from));
                if (left < word.length()) {
                    return word.charAt(left);
                }
                left -= word.length();
                int number = runLength(from);
                int digits = number == 1 ? 0 : digitsOf(number);
                if (left < digits) {
                    return digitAt(number, digits - 1 - left);
                }
                left -= digits;
            }
            return NONE;
        }

        private int runLength(int from) {
            int end = from + 1;
            while (end < size && kindAt(end) == kindAt(from)) {
                end++;
            }
            return end - from;
        }

        private static int digitsOf(int number) {
            return number < 10 ? 1 : number < 100 ? 2 : 3;
        }

        /** A digit's sign, places counted from the last one. */
        private static int digitAt(int number, int place) {
            int rest = number;
            for (int i = 0; i < place; i++) {
                rest /= 10;
            }
            return '0' + rest % 10;
        }

        /** Places TAKEN by all that made those of these bits. */
        long rootsOf(long madeBits) {
            long roots = 0;
            int taken = 0;
            int made = 0;
            for (int i = 0; i < size; i++) {
                int takes = Kinds.takenBy(kindAt(i));
                int makes = Kinds.madeBy(kindAt(i));
                long own = ((1L << makes) - 1) << made;
                if ((own & madeBits) != 0) {
                    roots |= ((1L << takes) - 1) << taken;
                }
                taken += takes;
                made += makes;
            }
            return roots;
        }
    }

    /** A WORKED ROW. */
    private static final class Done {
        private final Stitches stitches = new Stitches();
        private int side;
        private int line;

        void takeFrom(Done other) {
            stitches.takeFrom(other.stitches);
            side = other.side;
            line = other.line;
        }

        int chartAt(int column) {
            if (side == RIGHT_SIDE) {
                return stitches.kindAt(column);
            }
            return Kinds.turnedTo(stitches.kindAt(stitches.size - 1 - column));
        }
    }

    /** The working of one ROW: what it does to so many on the needle, or the HITCH that ends it. */
    private static final class Pass {
        private final Stitches stitches = new Stitches();
        private final int[] groupPlaces = new int[MOST_OTHERS + 1];
        private final int[] groupTimes = new int[MOST_OTHERS + 1];
        private int left;
        private int made;
        private int hitch;
        private int hitchPlace;
        private int within;

        boolean isHitched() {
            return hitch != NO_HITCH;
        }

        int groupPlaceAt(int depth) {
            return depth >= 0 && depth < groupPlaces.length ? groupPlaces[depth] : 0;
        }

        int groupTimeAt(int depth) {
            return depth >= 0 && depth < groupTimes.length ? groupTimes[depth] : 0;
        }

        void stopFilled(int needle) {
            begin(needle);
            stop(FILLED, 0, 0);
        }

        void workLine(Line line, int needle) {
            begin(needle);
            workParts(line, 0, line.parts, 0);
            if (hitch == NO_HITCH && left > 0) {
                stop(OVERLEFT, line.size(), 0);
            }
        }

        private void begin(int needle) {
            stitches.size = 0;
            left = needle;
            made = 0;
            hitch = NO_HITCH;
            hitchPlace = 0;
            within = 0;
        }

        private void stop(int number, int place, int depth) {
            hitch = number;
            hitchPlace = place;
            within = depth;
        }

        /** Depth: within how many others these PARTS stand. */
        private void workParts(Line line, int from, int to, int depth) {
            if (depth > MOST_OTHERS + 1) {
                return;
            }
            for (int part = from; part < to && hitch == NO_HITCH; part = Math.max(part + 1, line.endOf(part))) {
                switch (line.sortOf(part)) {
                    case Line.TIMES:
                        workTimes(line, part, depth);
                        break;
                    case Line.TILL:
                        workTill(line, part, depth);
                        break;
                    default:
                        workWord(line, part, depth);
                        break;
                }
            }
        }

        private void workTimes(Line line, int part, int depth) {
            int number = line.numberOf(part);
            for (int time = 1; time <= number; time++) {
                int ahead = stitches.size;
                enter(line.placeOf(part), time, depth);
                workParts(line, part + 1, line.endOf(part), depth + 1);
                // a time without a STITCH leaves all as it was, so all times behind it would, too:
                // worked one by one, four such in one another would be millions
                if (hitch != NO_HITCH || stitches.size == ahead) {
                    return;
                }
            }
        }

        private void workTill(Line line, int part, int depth) {
            int number = line.numberOf(part);
            for (int time = 1; time <= MOST_ON_NEEDLE && left > number; time++) {
                int ahead = left;
                enter(line.placeOf(part), time, depth);
                workParts(line, part + 1, line.endOf(part), depth + 1);
                if (hitch != NO_HITCH) {
                    return;
                }
                if (left == ahead) {
                    stop(IDLE, line.placeOf(part), depth);
                    return;
                }
            }
            if (left < number) {
                stop(PAST, line.placeOf(part), depth);
            }
        }

        private void enter(int place, int time, int depth) {
            if (depth >= 0 && depth < groupPlaces.length && depth < groupTimes.length) {
                groupPlaces[depth] = place;
                groupTimes[depth] = time;
            }
        }

        private void workWord(Line line, int part, int depth) {
            int kind = line.sortOf(part);
            int takes = Kinds.takenBy(kind);
            int makes = Kinds.madeBy(kind);
            int number = line.numberOf(part);
            for (int n = 0; n < number; n++) {
                int stopped = hitchOf(takes, makes);
                if (stopped != NO_HITCH) {
                    stop(stopped, line.placeOf(part), depth);
                    return;
                }
                stitches.addKind(kind);
                left -= takes;
                made += makes;
            }
        }

        private int hitchOf(int takes, int makes) {
            if (takes > left) {
                return SHORT;
            }
            if (made + makes > MOST_ON_NEEDLE) {
                return WIDE;
            }
            return stitches.size >= MOST_IN_ROW ? LONG : NO_HITCH;
        }
    }

    /** A chain of CAUSES, the outermost first. */
    private static final class Chain {
        private static final int GROUP = 10;
        private static final int ROW = 11;
        private static final int RUN = 12;
        /** A RUN, a ROW, the ( ) and < > in one another, the HITCH. */
        private static final int MOST_LINKS = MOST_OTHERS + 4;
        private static final int WIDTH = 3;

        private final int[] numbers = new int[MOST_LINKS * WIDTH];
        private int links;

        void begin() {
            links = 0;
        }

        void addLink(int number, int second, int third) {
            int at = links * WIDTH;
            if (at >= 0 && at + 2 < numbers.length) {
                numbers[at] = number;
                numbers[at + 1] = second;
                numbers[at + 2] = third;
                links++;
            }
        }

        boolean hasNumber(int i, int what) {
            return i >= 0 && i < links && what >= 0 && what < WIDTH;
        }

        int numberAt(int i, int what) {
            int at = i * WIDTH + what;
            return at >= 0 && at < numbers.length ? numbers[at] : 0;
        }
    }

    /** What image() keeps: ROWS, WORKED ROWS, the needle, SIDE, MODE and SEED. */
    private static final class State {
        private final Line[] lines = new Line[MOST_LINES];
        private final Done[] rows = new Done[MOST_WORKED];
        private int lineCount;
        private int doneCount;
        private int needle;
        private int side = RIGHT_SIDE;
        private int mode = FLAT;
        private int seed = 1;

        State() {
            for (int i = 0; i < rows.length; i++) {
                rows[i] = new Done();
            }
        }

        void takeFrom(State other) {
            for (int i = 0; i < lines.length && i < other.lines.length; i++) {
                // a ROW never changes once it is read, so both may have the same one
                lines[i] = other.lines[i];
            }
            doneCount = other.doneCount;
            for (int i = 0; i < doneCount; i++) {
                Done to = doneAt(i);
                Done from = other.doneAt(i);
                if (to != null && from != null) {
                    to.takeFrom(from);
                }
            }
            lineCount = other.lineCount;
            needle = other.needle;
            side = other.side;
            mode = other.mode;
            seed = other.seed;
        }

        Line lineAt(int i) {
            return i >= 0 && i < lineCount && i < lines.length ? lines[i] : null;
        }

        Done doneAt(int i) {
            return i >= 0 && i < doneCount && i < rows.length ? rows[i] : null;
        }

        boolean isSpan(int from, int to) {
            return from >= 0 && from <= to && to < lineCount;
        }

        boolean addLine(Line line) {
            if (lineCount < 0 || lineCount >= lines.length) {
                return false;
            }
            lines[lineCount] = line;
            lineCount++;
            return true;
        }

        boolean dropLine() {
            if (lineCount < 1) {
                return false;
            }
            lineCount--;
            return true;
        }

        boolean addDone(Pass pass, int line) {
            Done done = doneCount >= 0 && doneCount < rows.length ? rows[doneCount] : null;
            if (done == null) {
                return false;
            }
            done.stitches.takeFrom(pass.stitches);
            done.side = side;
            done.line = line;
            doneCount++;
            needle = pass.made;
            if (mode == FLAT) {
                side = side == RIGHT_SIDE ? WRONG_SIDE : RIGHT_SIDE;
            }
            return true;
        }

        /** By as many as there are, if n is more. */
        void ripBack(int n) {
            Done first = doneAt(Math.max(0, doneCount - n));
            if (first == null || n < 1) {
                return;
            }
            // a WORKED ROW TOOK all that was on the needle, or it would be OVERLEFT
            needle = first.stitches.takenAhead(first.stitches.size);
            side = first.side;
            doneCount = Math.max(0, doneCount - n);
        }

        /** Of the j-th on the needle now: its places ahead of the first WORKED ROW. */
        long placesAtFirst(int j) {
            long places = 1L << j;
            int count = needle;
            for (int worked = doneCount - 1; worked >= 0; worked--) {
                Done done = doneAt(worked);
                if (done == null) {
                    return 0;
                }
                long made = mode == FLAT ? turnedAbout(places, count) : places;
                places = done.stitches.rootsOf(made);
                count = done.stitches.takenAhead(done.stitches.size);
            }
            return places;
        }

        /** Bits of count places, told from the other end. */
        private static long turnedAbout(long places, int count) {
            long turned = 0;
            for (int place = 0; place < count; place++) {
                if ((places & 1L << place) != 0) {
                    turned |= 1L << (count - 1 - place);
                }
            }
            return turned;
        }

        int drawBelow(int n) {
            seed = seed * 1103515245 + 12345;
            return n < 1 ? 0 : (seed >>> 16) % n;
        }
    }

    /** A SHELF: NOTHING, a ROW OF NUMBERS, or a STITCH. */
    private static final class Shelf {
        private static final int BYTES = 0;
        private static final int SHORTS = 1;
        private static final int INTS = 2;
        private static final int LONGS = 3;
        private static final int BOOLEANS = 4;
        private static final int STITCH_BASE = 10;

        private final long[] elements = new long[MOST_ELEMENTS];
        /** As holds() tells it. */
        private int held = NONE;
        private int size;

        static boolean isSort(int sort) {
            return sort >= BYTES && sort <= BOOLEANS;
        }

        boolean isBare() {
            return held == NONE;
        }

        boolean hasRow() {
            return isSort(held);
        }

        boolean hasStitch() {
            return held >= STITCH_BASE;
        }

        int stitchKind() {
            return hasStitch() ? held - STITCH_BASE : NONE;
        }

        void putNothing() {
            held = NONE;
            size = 0;
        }

        void putStitch(int kind) {
            held = STITCH_BASE + kind;
            size = 0;
        }

        void putRow(int sort, int n) {
            held = sort;
            size = n;
            Arrays.fill(elements, 0L);
        }

        boolean hasElement(int i) {
            return hasRow() && i >= 0 && i < size && i < elements.length;
        }

        boolean putElement(int i, long v) {
            if (!hasElement(i)) {
                return false;
            }
            elements[i] = lowestBits(v);
            return true;
        }

        long elementAt(int i) {
            return hasElement(i) ? elements[i] : 0;
        }

        private boolean hasSpan(int from, int n) {
            return n >= 0 && from >= 0 && from <= Math.min(size, elements.length) - n;
        }

        boolean giveElements(int i, Shelf to, int j, int n) {
            if (!hasSpan(i, n) || !to.hasSpan(j, n)) {
                return false;
            }
            System.arraycopy(elements, i, to.elements, j, n);
            return true;
        }

        private long lowestBits(long v) {
            switch (held) {
                case BYTES: return (byte) v;
                case SHORTS: return (short) v;
                case INTS: return (int) v;
                case BOOLEANS: return v == 0 ? 0 : 1;
                default: return v;
            }
        }
    }
}
