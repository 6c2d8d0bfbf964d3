import java.util.ArrayDeque;
import java.util.ArrayList;
import java.util.Deque;
import java.util.List;

/**
 * The document once more, written another way than the program, for the random runs: ROWS as trees
 * of objects, a needle whose STITCHES carry where they come from, the needle kept ahead of each row.
 */
final class Model {
    private static final String[] WORDS = {"", "", "", "", "k", "p", "sl", "yo", "m", "kt", "sk", "bo", "sd"};
    private static final int[] TAKES = {0, 0, 0, 0, 1, 1, 1, 0, 0, 2, 2, 1, 3};
    private static final int[] MAKES = {0, 0, 0, 0, 1, 1, 1, 1, 1, 1, 1, 0, 1};
    private static final int[] YARN = {0, 0, 0, 0, 10, 11, 4, 13, 9, 12, 14, 15, 18};
    private static final String[] UNDER = {"0", "01", "02", "03", "014", "015", "016", "027", "028", "039", "03A", "03B", "03AC"};

    /** A PART, or (sort '*') a whole ROW. */
    private static final class Part {
        char sort;
        int kind;
        int place;
        int number = 1;
        final List<Part> inner = new ArrayList<>();
    }

    private static final class Row {
        String text;
        Part whole;
    }

    private static final class Made {
        final long origin;

        Made(long origin) {
            this.origin = origin;
        }
    }

    private static final class Worked {
        int side;
        int row;
        List<Integer> kinds = new ArrayList<>();
        List<Long> roots = new ArrayList<>();
        List<Made> ahead;
    }

    private static final class Stop extends RuntimeException {
        private static final long serialVersionUID = 1L;
        final int number;
        final int place;

        Stop(int number, int place) {
            super(null, null, false, false);
            this.number = number;
            this.place = place;
        }
    }

    /** One ROW on its way. */
    private static final class Way {
        Deque<Made> left;
        Deque<Long> leftBits = new ArrayDeque<>();
        List<Made> made = new ArrayList<>();
        Worked worked = new Worked();
        List<int[]> chain = new ArrayList<>();
        int hitch;
        List<int[]> causes;
    }

    private static final class All {
        List<Row> rows = new ArrayList<>();
        List<Worked> worked = new ArrayList<>();
        List<Made> needle = new ArrayList<>();
        int side;
        int mode;
        int seed = 1;

        All twin() {
            All a = new All();
            a.rows.addAll(rows);
            a.worked.addAll(worked);
            a.needle.addAll(needle);
            a.side = side;
            a.mode = mode;
            a.seed = seed;
            return a;
        }
    }

    private All all = new All();
    private All kept;
    private String tape = "";
    private final int[] held = {-1, -1, -1, -1, -1, -1, -1, -1};
    private final long[][] numbers = new long[8][0];
    private List<int[]> why = new ArrayList<>();
    private final int[] refusals = new int[5];

    private int no(int number) {
        refusals[-92 - number]++;
        return number;
    }

    private long longNo(int number) {
        return no(number) - 9_000_000_000_000_000_000L;
    }

    private static boolean in(int v, int from, int to) {
        return from <= v && v <= to;
    }

    private boolean isRow(int line) {
        return in(line, 0, all.rows.size() - 1);
    }

    private boolean isWorked(int worked) {
        return in(worked, 0, all.worked.size() - 1);
    }

    // ---- SHELVES ----

    int row(int s, int sort, int n) {
        if (!in(s, 0, 7) || !in(sort, 0, 4) || !in(n, 0, 40)) {
            return no(-92);
        }
        held[s] = sort;
        numbers[s] = new long[n];
        return 1;
    }

    int set(int s, int i, long v) {
        if (!in(s, 0, 7)) {
            return no(-92);
        }
        if (held[s] >= 10) {
            return no(-93);
        }
        if (held[s] < 0) {
            return no(-94);
        }
        if (!in(i, 0, numbers[s].length - 1)) {
            return no(-92);
        }
        int away = held[s] == 0 ? 56 : held[s] == 1 ? 48 : held[s] == 2 ? 32 : 0;
        numbers[s][i] = held[s] == 4 ? Math.abs(Long.signum(v)) : v << away >> away;
        return 1;
    }

    int copy(int p, int q, int i, int j, int n) {
        if (!in(p, 0, 7) || !in(q, 0, 7)) {
            return no(-92);
        }
        if (held[p] >= 10 || held[q] >= 10 || held[p] >= 0 && held[q] >= 0 && held[p] != held[q]) {
            return no(-93);
        }
        if (held[p] < 0 || held[q] < 0) {
            return no(-94);
        }
        if (i < 0 || j < 0 || n < 0 || (long) i + n > numbers[p].length || (long) j + n > numbers[q].length) {
            return no(-92);
        }
        long[] were = numbers[p].clone();
        for (int k = 0; k < n; k++) {
            numbers[q][j + k] = were[i + k];
        }
        return n;
    }

    long element(int s, int i) {
        return in(s, 0, 7) && in(held[s], 0, 4) && in(i, 0, numbers[s].length - 1) ? numbers[s][i] : 0;
    }

    int holds(int s) {
        return in(s, 0, 7) ? held[s] : -1;
    }

    int show(int s, int worked, int i) {
        if (!in(s, 0, 7)) {
            return no(-92);
        }
        if (worked == -1) {
            held[s] = -1;
            return 1;
        }
        if (!isWorked(worked) || !in(i, 0, all.worked.get(worked).kinds.size() - 1)) {
            return no(-92);
        }
        held[s] = 10 + all.worked.get(worked).kinds.get(i);
        return 1;
    }

    private static boolean under(int kind, int top) {
        return UNDER[kind].indexOf("0123456789ABC".charAt(top)) >= 0;
    }

    int says(int s, int kind) {
        if (!in(s, 0, 7) || !in(kind, 0, 12)) {
            return no(-92);
        }
        if (held[s] < 0) {
            return no(-94);
        }
        if (held[s] < 10 || !under(held[s] - 10, kind)) {
            return no(-93);
        }
        int own = held[s] - 10;
        int[] fixed = {YARN[own], 1, MAKES[own], TAKES[own] - MAKES[own], 5, 4, 4, 7, 8, 10, own == 12 ? 12 : 9, 0, 2};
        return fixed[kind];
    }

    // ---- THE TAPE and ROWS ----

    int feed(int letter) {
        if (!in(letter, 0, 255)) {
            return no(-92);
        }
        if (tape.length() == 250) {
            return no(-96);
        }
        tape += (char) letter;
        return tape.length();
    }

    int wipe() {
        int size = tape.length();
        tape = "";
        return size;
    }

    int line() {
        Row row = new Row();
        row.text = tape;
        row.whole = new Part();
        row.whole.sort = '*';
        tape = "";
        int fault = read(row.text, row.whole);
        if (fault >= 0) {
            no(-92);
            return -600 - fault;
        }
        if (all.rows.size() == 20) {
            return no(-96);
        }
        all.rows.add(row);
        return all.rows.size() - 1;
    }

    /** Sign by sign, with those that are open on a stack; the FAULT, or -1. */
    private static int read(String text, Part whole) {
        Deque<Part> open = new ArrayDeque<>();
        open.push(whole);
        boolean wantsPart = true;
        int i = 0;
        while (i < text.length()) {
            char c = text.charAt(i);
            if (wantsPart) {
                Part part = new Part();
                part.place = i;
                part.sort = c;
                if (c == '(' || c == '<') {
                    if (open.size() > 5) {
                        return i;
                    }
                    open.peek().inner.add(part);
                    open.push(part);
                    i++;
                    continue;
                }
                String word = head(text.substring(i), "abcdefghijklmnopqrstuvwxyz", 250);
                part.sort = 'w';
                part.kind = word.isEmpty() ? -1 : List.of(WORDS).indexOf(word);
                if (part.kind < 0) {
                    return i;
                }
                open.peek().inner.add(part);
                i += word.length();
                String number = head(text.substring(i), "0123456789", 2);
                if (!number.isEmpty()) {
                    part.number = Integer.parseInt(number);
                    if (!in(part.number, 1, 60)) {
                        return i;
                    }
                    i += number.length();
                }
                wantsPart = false;
            } else if (c == ',') {
                wantsPart = true;
                i++;
            } else if (open.peek().sort == '(' && c == ')' || open.peek().sort == '<' && c == '>') {
                Part part = open.pop();
                i++;
                String number = head(text.substring(i), "0123456789", 2);
                if (number.isEmpty() || !in(Integer.parseInt(number), c == ')' ? 1 : 0, 60)) {
                    return i;
                }
                part.number = Integer.parseInt(number);
                i += number.length();
            } else {
                return i;
            }
        }
        return wantsPart || open.size() > 1 ? text.length() : -1;
    }

    private static String head(String text, String signs, int most) {
        int n = 0;
        while (n < most && n < text.length() && signs.indexOf(text.charAt(n)) >= 0) {
            n++;
        }
        return text.substring(0, n);
    }

    int drop() {
        if (all.rows.isEmpty()) {
            return no(-95);
        }
        all.rows.remove(all.rows.size() - 1);
        return all.rows.size();
    }

    private static int count(Part part) {
        int sum = 0;
        for (Part inner : part.inner) {
            sum += 1 + count(inner);
        }
        return sum;
    }

    private static int depth(Part part) {
        int most = -1;
        for (Part inner : part.inner) {
            most = Math.max(most, depth(inner));
        }
        return most + 1;
    }

    int lineOf(int line, int what) {
        if (!isRow(line) || !in(what, 0, 3)) {
            return no(-92);
        }
        Row row = all.rows.get(line);
        int[] told = {count(row.whole), depth(row.whole) - 1, row.text.length(), row.text.contains("<") ? 1 : 0};
        return told[what];
    }

    int text(int line, int i) {
        if (!isRow(line)) {
            return no(-92);
        }
        String text = all.rows.get(line).text;
        return in(i, 0, text.length() - 1) ? text.charAt(i) : -1;
    }

    // ---- WORKING ----

    int mode(int v) {
        if (v != 0 && v != 1) {
            return no(-92);
        }
        if (!all.worked.isEmpty()) {
            return no(-95);
        }
        int was = all.mode;
        all.mode = v;
        return was;
    }

    private static List<Made> fresh(int n) {
        List<Made> needle = new ArrayList<>();
        for (int i = 0; i < n; i++) {
            needle.add(new Made(1L << i));
        }
        return needle;
    }

    int cast(int n) {
        if (!in(n, 1, 60)) {
            return no(-92);
        }
        if (!all.needle.isEmpty() || !all.worked.isEmpty()) {
            return no(-95);
        }
        all.needle = fresh(n);
        all.side = 0;
        return n;
    }

    private static void parts(Way way, List<Part> parts) {
        for (Part part : parts) {
            if (part.sort == 'w') {
                for (int i = 0; i < part.number; i++) {
                    one(way, part);
                }
            } else if (part.sort == '(') {
                for (int time = 1; time <= part.number; time++) {
                    int ahead = way.worked.kinds.size();
                    way.chain.add(new int[] {10, part.place, time});
                    parts(way, part.inner);
                    way.chain.remove(way.chain.size() - 1);
                    if (ahead == way.worked.kinds.size() && time > 2) {
                        break;
                    }
                }
            } else {
                till(way, part);
            }
        }
    }

    private static void till(Way way, Part part) {
        for (int time = 1; way.left.size() > part.number; time++) {
            int ahead = way.left.size();
            way.chain.add(new int[] {10, part.place, time});
            parts(way, part.inner);
            way.chain.remove(way.chain.size() - 1);
            if (way.left.size() == ahead) {
                throw new Stop(4, part.place);
            }
        }
        if (way.left.size() < part.number) {
            throw new Stop(5, part.place);
        }
    }

    private static void one(Way way, Part part) {
        if (TAKES[part.kind] > way.left.size()) {
            throw new Stop(1, part.place);
        }
        if (way.made.size() + MAKES[part.kind] > 60) {
            throw new Stop(2, part.place);
        }
        if (way.worked.kinds.size() == 200) {
            throw new Stop(3, part.place);
        }
        long origin = 0;
        long roots = 0;
        for (int i = 0; i < TAKES[part.kind]; i++) {
            origin |= way.left.poll().origin;
            roots |= way.leftBits.poll();
        }
        for (int i = 0; i < MAKES[part.kind]; i++) {
            way.made.add(new Made(origin));
            way.worked.roots.add(roots);
        }
        way.worked.kinds.add(part.kind);
    }

    private static Way work(Row row, List<Made> needle, int workedAhead, int number) {
        Way way = new Way();
        way.left = new ArrayDeque<>(needle);
        for (int i = 0; i < needle.size(); i++) {
            way.leftBits.add(1L << i);
        }
        way.worked.ahead = new ArrayList<>(needle);
        try {
            if (workedAhead >= 50) {
                throw new Stop(7, 0);
            }
            parts(way, row.whole.inner);
            if (!way.left.isEmpty()) {
                throw new Stop(6, row.text.length());
            }
        } catch (Stop stop) {
            way.hitch = stop.number;
            way.causes = new ArrayList<>();
            way.causes.add(new int[] {11, number, way.worked.kinds.size()});
            way.causes.addAll(way.chain);
            way.causes.add(new int[] {stop.number, stop.place, way.left.size()});
        }
        return way;
    }

    /** The causes, or null if it was WORKED. */
    private List<int[]> inTruth(int line) {
        Way way = work(all.rows.get(line), all.needle, all.worked.size(), line);
        if (way.hitch != 0) {
            return way.causes;
        }
        way.worked.side = all.side;
        way.worked.row = line;
        all.worked.add(way.worked);
        all.needle = way.made;
        if (all.mode == 0) {
            all.side = 1 - all.side;
            java.util.Collections.reverse(all.needle);
        }
        return null;
    }

    int work(int line) {
        if (!isRow(line)) {
            return no(-92);
        }
        List<int[]> causes = inTruth(line);
        if (causes != null) {
            why = causes;
            return no(-95);
        }
        return all.needle.size();
    }

    int run(int from, int to, int n) {
        if (!isRow(from) || !isRow(to) || to < from || !in(n, 1, 20)) {
            return no(-92);
        }
        int worked = 0;
        for (int time = 1; time <= n; time++) {
            for (int line = from; line <= to; line++) {
                List<int[]> causes = inTruth(line);
                if (causes != null) {
                    causes.add(0, new int[] {12, time, line});
                    why = causes;
                    return no(-95);
                }
                worked++;
            }
        }
        return worked;
    }

    private void ripOne() {
        Worked last = all.worked.remove(all.worked.size() - 1);
        all.needle = last.ahead;
        all.side = last.side;
    }

    int rip(int n) {
        if (!in(n, 1, all.worked.size())) {
            return no(-92);
        }
        for (int i = 0; i < n; i++) {
            ripOne();
        }
        return all.worked.size();
    }

    int causes() {
        return why.size();
    }

    int why(int i, int what) {
        return in(i, 0, why.size() - 1) && in(what, 0, 2) ? why.get(i)[what] : no(-92);
    }

    // ---- in thought ----

    private static int yarn(List<Integer> kinds) {
        int sum = 0;
        for (int kind : kinds) {
            sum += YARN[kind];
        }
        return sum;
    }

    int would(int line, int n, int what) {
        if (!isRow(line) || !in(n, 0, 60) || !in(what, 0, 2)) {
            return no(-92);
        }
        Way way = work(all.rows.get(line), fresh(n), 0, line);
        int[] told = {way.made.size(), way.worked.kinds.size(), yarn(way.worked.kinds)};
        return way.hitch != 0 ? -1 : told[what];
    }

    int hitch(int line, int n) {
        if (!isRow(line) || !in(n, 0, 60)) {
            return no(-92);
        }
        int number = work(all.rows.get(line), fresh(n), 0, line).hitch;
        return number == 0 ? -1 : number;
    }

    long fits(int line) {
        if (!isRow(line)) {
            return longNo(-92);
        }
        long bits = 0;
        for (int n = 60; n >= 0; n--) {
            bits = bits * 2 + (work(all.rows.get(line), fresh(n), 0, line).hitch == 0 ? 1 : 0);
        }
        return bits;
    }

    int least() {
        for (int n = 0; n <= 60; n++) {
            List<Made> needle = fresh(n);
            boolean could = true;
            for (Row row : all.rows) {
                Way way = work(row, needle, 0, 0);
                could &= way.hitch == 0;
                needle = way.made;
                if (!could) {
                    break;
                }
            }
            if (could) {
                return n;
            }
        }
        return -1;
    }

    /** By doing it in truth, and taking all back. */
    int times(int from, int to) {
        if (!isRow(from) || !isRow(to) || to < from) {
            return no(-92);
        }
        All before = all.twin();
        int times = 0;
        boolean could = true;
        while (could && times < 50) {
            for (int line = from; line <= to && could; line++) {
                could = inTruth(line) == null;
            }
            times += could ? 1 : 0;
        }
        all = before;
        return times;
    }

    // ---- WORKED ROWS ----

    private static int sum(int[] table, List<Integer> kinds) {
        int sum = 0;
        for (int kind : kinds) {
            sum += table[kind];
        }
        return sum;
    }

    int workedOf(int worked, int what) {
        if (!isWorked(worked) || !in(what, 0, 5)) {
            return no(-92);
        }
        Worked w = all.worked.get(worked);
        int[] told = {w.side, w.kinds.size(), w.ahead.size(), w.roots.size(), yarn(w.kinds), w.row};
        return told[what];
    }

    int stitch(int worked, int i, int what) {
        if (!isWorked(worked) || !in(what, 0, 2) || !in(i, 0, all.worked.get(worked).kinds.size() - 1)) {
            return no(-92);
        }
        List<Integer> kinds = all.worked.get(worked).kinds;
        int[] told = {kinds.get(i), sum(TAKES, kinds.subList(0, i)), sum(MAKES, kinds.subList(0, i))};
        return told[what];
    }

    private static final int[] TURNED = {0, 0, 0, 0, 5, 4, 6, 7, 8, 10, 9, 11, 12};
    private static final int[] MIRROR = {0, 0, 0, 0, 4, 5, 6, 7, 8, 10, 9, 11, 12};

    private static List<Integer> backwards(List<Integer> kinds, int[] table) {
        List<Integer> told = new ArrayList<>();
        for (int kind : kinds) {
            told.add(0, table[kind]);
        }
        return told;
    }

    private static int at(List<Integer> kinds, int i) {
        return in(i, 0, kinds.size() - 1) ? kinds.get(i) : -1;
    }

    private List<Integer> chart(int worked) {
        Worked w = all.worked.get(worked);
        return w.side == 0 ? w.kinds : backwards(w.kinds, TURNED);
    }

    int chart(int worked, int column) {
        return isWorked(worked) ? at(chart(worked), column) : no(-92);
    }

    int shorthand(int worked, int i) {
        if (!isWorked(worked)) {
            return no(-92);
        }
        List<Integer> kinds = all.worked.get(worked).kinds;
        StringBuilder told = new StringBuilder();
        int n = 0;
        for (int k = 0; k < kinds.size(); k++) {
            n++;
            if (k + 1 == kinds.size() || !kinds.get(k).equals(kinds.get(k + 1))) {
                told.append(told.length() == 0 ? "" : ",").append(WORDS[kinds.get(k)]).append(n == 1 ? "" : "" + n);
                n = 0;
            }
        }
        return in(i, 0, told.length() - 1) ? told.charAt(i) : -1;
    }

    int unit(int worked) {
        if (!isWorked(worked)) {
            return no(-92);
        }
        List<Integer> kinds = all.worked.get(worked).kinds;
        for (int n = 1; n <= kinds.size(); n++) {
            List<Integer> again = new ArrayList<>();
            while (again.size() < kinds.size()) {
                again.addAll(kinds.subList(0, n));
            }
            if (again.equals(kinds)) {
                return n;
            }
        }
        return 0;
    }

    int mirrored(int worked, int i) {
        return isWorked(worked) ? at(backwards(all.worked.get(worked).kinds, MIRROR), i) : no(-92);
    }

    int even(int worked) {
        if (!isWorked(worked)) {
            return no(-92);
        }
        List<Integer> kinds = all.worked.get(worked).kinds;
        return backwards(kinds, MIRROR).equals(kinds) ? 1 : 0;
    }

    long roots(int worked, int j) {
        if (!isWorked(worked) || !in(j, 0, all.worked.get(worked).roots.size() - 1)) {
            return longNo(-92);
        }
        return all.worked.get(worked).roots.get(j);
    }

    long origin(int j) {
        return in(j, 0, all.needle.size() - 1) ? all.needle.get(j).origin : longNo(-92);
    }

    long yarn() {
        long sum = 0;
        for (Worked w : all.worked) {
            sum += yarn(w.kinds);
        }
        return sum;
    }

    int many(int kind) {
        if (!in(kind, 0, 12)) {
            return no(-92);
        }
        int sum = 0;
        for (Worked w : all.worked) {
            for (int own : w.kinds) {
                sum += under(own, kind) ? 1 : 0;
            }
        }
        return sum;
    }

    int differ(int worked, int other) {
        if (!isWorked(worked) || !isWorked(other)) {
            return no(-92);
        }
        List<Integer> a = chart(worked);
        List<Integer> b = chart(other);
        if (a.equals(b)) {
            return -1;
        }
        int column = 0;
        while (column < a.size() && column < b.size() && a.get(column).equals(b.get(column))) {
            column++;
        }
        return column;
    }

    int judge(int worked, int s, int n) {
        if (!isWorked(worked) || !in(s, 0, 7) || !in(n, 0, 40)) {
            return no(-92);
        }
        if (held[s] >= 10) {
            return no(-93);
        }
        if (held[s] < 0) {
            return no(-94);
        }
        if (numbers[s].length < n) {
            return no(-92);
        }
        List<Integer> kinds = all.worked.get(worked).kinds;
        for (int i = 0; i < n; i++) {
            if (i >= kinds.size() || kinds.get(i) != numbers[s][i]) {
                return i;
            }
        }
        return kinds.size() == n ? -1 : n;
    }

    // ---- draws, what is kept, status ----

    int days(int n) {
        if (!in(n, 1, 60)) {
            return no(-92);
        }
        if (all.rows.isEmpty()) {
            return no(-95);
        }
        int worked = 0;
        for (int day = 0; day < n; day++) {
            all.seed = (int) (all.seed * 1103515245L + 12345);
            int line = (int) ((all.seed & 0xffffffffL) / 65536 % all.rows.size());
            if (inTruth(line) == null) {
                worked++;
            } else if (!all.worked.isEmpty()) {
                ripOne();
            }
        }
        return worked;
    }

    int seed(int v) {
        int was = all.seed;
        all.seed = v;
        return was;
    }

    int image() {
        kept = all.twin();
        return 1;
    }

    int back() {
        if (kept == null) {
            return no(-95);
        }
        all = kept.twin();
        return 1;
    }

    int status(int what) {
        int shelves = 0;
        for (int h : held) {
            shelves += h >= 0 ? 1 : 0;
        }
        int[] told = {all.rows.size(), all.worked.size(), all.needle.size(), all.side, all.mode, tape.length(), all.seed, shelves,
            -1, -1, -1, -1, refusals[0], refusals[1], refusals[2], refusals[3], refusals[4]};
        return in(what, 0, 16) ? told[what] : -1;
    }
}
