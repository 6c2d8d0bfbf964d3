import java.util.Random;

/** Random runs of 512 calls, each answer against the model's; the machine must not throw in any. */
public final class RandomTest {
    private static final int RUNS = 3000;
    private static final int CALLS = 512;
    private static final String[] WORDS = {"k", "p", "sl", "yo", "m", "kt", "sk", "bo", "sd", "k", "p", "k"};
    private static final String SIGNS = "kpslyomtbd(),<>0123456789kk,,";
    private static final int[] EDGES = {-1, 0, 1, 2, 3, 7, 8, 12, 13, 19, 20, 40, 41, 49, 50, 59, 60, 61, 255, 256,
        Integer.MAX_VALUE, Integer.MIN_VALUE, Integer.MAX_VALUE - 1, Integer.MIN_VALUE + 1, -92};

    private final Random random;
    private final KnitReader x = new KnitReader();
    private final Model m = new Model();
    private final int run;
    private int calls;
    /** How wild this run's arguments are, in a hundred. */
    private final int wild;

    private RandomTest(int run) {
        this.run = run;
        random = new Random(run * 7919L + 1);
        wild = run % 4 == 0 ? 40 : 6;
    }

    public static void main(String[] args) {
        for (int run = 0; run < RUNS; run++) {
            new RandomTest(run).go();
        }
        Due.end("RandomTest");
    }

    private void go() {
        while (calls < CALLS) {
            if (random.nextInt(100) < 12) {
                tell();
            } else {
                one(random.nextInt(48), any(3), any(20), any(12));
            }
        }
    }

    private void is(String call, long got, long want) {
        calls++;
        // what calls behind the 512th answer is free
        if (calls <= CALLS) {
            Due.due("run " + run + ", call " + calls + ": " + call, got, want);
        }
    }

    private int below(int n) {
        return random.nextInt(n);
    }

    /** Mostly below n, now and then an edge or anything. */
    private int any(int n) {
        if (below(100) >= wild) {
            return below(n);
        }
        return below(4) == 0 ? random.nextInt() : EDGES[below(EDGES.length)];
    }

    private int worked() {
        int n = m.status(1);
        return any(Math.max(1, n));
    }

    private int row() {
        return any(Math.max(1, m.status(0)));
    }

    private void tell() {
        String text = text();
        for (int i = 0; i < text.length(); i++) {
            is("feed", x.feed(text.charAt(i)), m.feed(text.charAt(i)));
        }
        is("line() of " + text, x.line(), m.line());
    }

    private String text() {
        int needle = m.status(2);
        String text = below(4) == 0 ? fitting(needle) : parts(0);
        if (below(8) == 0) {
            int at = below(text.length() + 1);
            int end = Math.min(text.length(), at + below(3));
            String sign = below(6) == 0 ? "" : String.valueOf(below(9) == 0 ? (char) below(256) : SIGNS.charAt(below(SIGNS.length())));
            text = text.substring(0, at) + sign + text.substring(end);
        }
        return text.length() > 60 && below(10) > 0 ? "<k>0" : text;
    }

    /** Likely to be WORKED on what the needle has. */
    private String fitting(int needle) {
        switch (below(7)) {
            case 0: return "<k>0";
            case 1: return "k,<p,k>1,p".substring(needle % 2 == 0 ? 2 : 0).replace(",p", needle % 2 == 0 ? ",sl" : ",p");
            case 2: return "kt,<k>2,yo,sk";
            case 3: return "sd,yo2,<p>1,m,k";
            case 4: return "bo,<k>1,sl,yo";
            case 5: return "(k,p)2,<sl>0";
            default: return "yo,<k>0,m";
        }
    }

    private String number() {
        return below(40) == 0 ? (below(2) == 0 ? "0" + (1 + below(9)) : "" + (1 + below(60))) : "" + (1 + below(4));
    }

    private String parts(int depth) {
        StringBuilder told = new StringBuilder();
        int n = 1 + below(3);
        for (int i = 0; i < n; i++) {
            told.append(i == 0 ? "" : ",").append(part(depth));
        }
        return told.toString();
    }

    private String part(int depth) {
        int sort = below(10);
        if (sort < 2 && depth < 6) {
            return "(" + parts(depth + 1) + ")" + number();
        }
        if (sort < 5 && depth < 6) {
            return "<" + parts(depth + 1) + ">" + below(6);
        }
        return WORDS[below(WORDS.length)] + (below(2) == 0 ? number() : "");
    }

    private void one(int call, int a, int b, int c) {
        if (call < 14) {
            shelfCall(call, a, b, c);
        } else if (call < 30) {
            workCall(call, b);
        } else {
            askCall(call, b);
        }
    }

    private void shelfCall(int call, int a, int b, int c) {
        int d = any(3);
        int sort = any(5);
        int i = any(5);
        int j = any(5);
        int n = any(6);
        long v = below(3) == 0 ? random.nextLong() : below(14);
        switch (call) {
            case 0: is("row", x.row(a, sort, c), m.row(a, sort, c)); break;
            case 1: case 2: case 3: is("set", x.set(a, c, v), m.set(a, c, v)); break;
            case 4: {
                // none copied from behind the last element: the document leaves open whether that may be
                int many = n == 0 ? 1 : n;
                is("copy", x.copy(a, d, i, j, many), m.copy(a, d, i, j, many));
                break;
            }
            case 5: is("element", x.element(a, c), m.element(a, c)); break;
            case 6: is("holds", x.holds(a), m.holds(a)); break;
            case 7: case 8: {
                int w = below(8) == 0 ? -1 : worked();
                int place = w == -1 ? 0 : below(4) == 0 ? b : i;
                is("show", x.show(a, w, place), m.show(a, w, place));
                break;
            }
            case 9: case 10: is("says", x.says(a, b), m.says(a, b)); break;
            case 11: {
                int w = worked();
                is("judge", x.judge(w, a, c), m.judge(w, a, c));
                break;
            }
            case 12: judged(a); break;
            default: is("wipe", x.wipe(), m.wipe()); break;
        }
    }

    /** A told row that is nearly as it was worked. */
    private void judged(int a) {
        int w = worked();
        int many = m.workedOf(w, 1);
        is("workedOf to judge", x.workedOf(w, 1), many);
        int n = Math.max(0, Math.min(12, many + below(3) - 1));
        is("row to judge", x.row(a, a & 3, n), m.row(a, a & 3, n));
        for (int i = 0; i < n; i++) {
            int kind = below(14);
            if (below(20) > 0) {
                kind = m.stitch(w, i, 0);
                is("stitch to judge", x.stitch(w, i, 0), kind);
            }
            is("set to judge", x.set(a, i, kind), m.set(a, i, kind));
        }
        is("judge", x.judge(w, a, n), m.judge(w, a, n));
    }

    private void workCall(int call, int b) {
        int r = row();
        int r2 = below(2) == 0 ? r : row();
        int n = any(60) % 61;
        switch (call) {
            case 14: case 15: case 16: is("work", x.work(r), m.work(r)); break;
            case 17: is("run", x.run(r, r2, b), m.run(r, r2, b)); break;
            case 18: {
                int by = below(3) == 0 ? m.status(1) : any(4);
                is("rip", x.rip(by), m.rip(by));
                break;
            }
            case 19: is("cast", x.cast(n), m.cast(n)); break;
            case 20: is("mode", x.mode(b & 3), m.mode(b & 3)); break;
            case 21: {
                if (below(3) == 0) {
                    is("drop", x.drop(), m.drop());
                }
                break;
            }
            case 22: is("days", x.days(n), m.days(n)); break;
            case 23: is("seed", x.seed(b), m.seed(b)); break;
            case 24: is("image", x.image(), m.image()); break;
            case 25: is("back", x.back(), m.back()); break;
            case 26: is("would", x.would(r, n, b % 4), m.would(r, n, b % 4)); break;
            case 27: is("hitch", x.hitch(r, n), m.hitch(r, n)); break;
            case 28: is("fits", x.fits(r), m.fits(r)); break;
            default: is("feed", x.feed(b), m.feed(b)); break;
        }
    }

    private void askCall(int call, int b) {
        int w = worked();
        int w2 = worked();
        int r = row();
        int i = any(10);
        int what = any(3);
        switch (call) {
            case 30: is("causes", x.causes(), m.causes()); break;
            case 31: case 32: is("why", x.why(i, what), m.why(i, what)); break;
            case 33: is("lineOf", x.lineOf(r, i), m.lineOf(r, i)); break;
            case 34: is("text", x.text(r, i), m.text(r, i)); break;
            case 35: is("least", x.least(), m.least()); break;
            case 36: is("times", x.times(r, b), m.times(r, b)); break;
            case 37: is("workedOf", x.workedOf(w, i), m.workedOf(w, i)); break;
            case 38: is("stitch", x.stitch(w, b, i % 4), m.stitch(w, b, i % 4)); break;
            case 39: is("chart", x.chart(w, b), m.chart(w, b)); break;
            case 40: is("shorthand", x.shorthand(w, b), m.shorthand(w, b)); break;
            case 41: is("unit", x.unit(w), m.unit(w)); break;
            case 42: is("mirrored", x.mirrored(w, b), m.mirrored(w, b)); break;
            case 43: is("even", x.even(w), m.even(w)); break;
            case 44: is("roots", x.roots(w, b), m.roots(w, b)); break;
            case 45: is("origin", x.origin(b), m.origin(b)); break;
            case 46: {
                is("yarn", x.yarn(), m.yarn());
                is("many", x.many(b), m.many(b));
                is("differ", x.differ(w, w2), m.differ(w, w2));
                break;
            }
            default: is("status", x.status(b), m.status(b)); break;
        }
    }
}
