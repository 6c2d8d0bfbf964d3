import java.io.IOException;
import java.lang.reflect.Method;
import java.lang.reflect.Modifier;
import java.util.Set;
import java.util.TreeSet;
import java.util.regex.Matcher;
import java.util.regex.Pattern;

/** The document from its first line to its last: each sentence as it stands there, and what a caller sees of it. */
public final class DocumentTest {
    private static final String FACE = "public int row(int s, int sort, int n); public int set(int s, int i, long v); "
        + "public int copy(int p, int q, int i, int j, int n); public long element(int s, int i); public int holds(int s); "
        + "public int show(int s, int worked, int i); public int says(int s, int kind); public int feed(int letter); "
        + "public int wipe(); public int line(); public int drop(); public int mode(int v); public int cast(int n); "
        + "public int work(int line); public int run(int from, int to, int n); public int rip(int n); public int causes(); "
        + "public int why(int i, int what); public int lineOf(int line, int what); public int text(int line, int i); "
        + "public int would(int line, int n, int what); public int hitch(int line, int n); public long fits(int line); "
        + "public int least(); public int times(int from, int to); public int workedOf(int worked, int what); "
        + "public int stitch(int worked, int i, int what); public int chart(int worked, int column); "
        + "public int shorthand(int worked, int i); public int unit(int worked); public int mirrored(int worked, int i); "
        + "public int even(int worked); public long roots(int worked, int j); public long origin(int j); public long yarn(); "
        + "public int many(int kind); public int differ(int worked, int other); public int judge(int worked, int s, int n); "
        + "public int days(int n); public int seed(int v); public int image(); public int back(); public int status(int what);";

    public static void main(String[] args) throws IOException {
        Doc.open();
        whatItIs();
        atMost512Calls();
        publicFace();
        DocStitches.go();
        DocWorking.go();
        DocAsked.go();
        DocRefusals.go();
        DocPromises.go();
        DocWorkPromises.go();
        DocAskPromises.go();
        notPromised();
        Doc.close();
        Due.end("DocumentTest");
    }

    private static void whatItIs() {
        Doc.says("# KnitReader ## What it is A reader of knitting: rows told in shorthand, with parts again and again in one another, "
            + "worked on what a needle has; sides that turn, charts as they look from the right side, stitches that come from others, "
            + "faults with all that they happened in, to the stitch; which counts a row fits, runs of rows, mirrored rows, shorthand "
            + "made of what was worked, the smallest part of which a row is made, yarn, told rows judged, rows by draws, ripping back.");
        KnitReader x = Due.knit(10, "k2,<p2,k2>0", "p2,(k2,p2)2", "(kt,k)3,k");
        Due.due("run(0, 2, 1)", x.run(0, 2, 1), 3);
        Due.due("status(3)", x.status(3), 1);
        Due.due("the charts of both sides", x.differ(0, 1), -1);
        Due.due("a stitch comes from two others", x.roots(2, 0), 3);
        Due.due("a fault", x.work(2), Due.STUCK);
        Due.whyIs(x, "a fault with all", 11, 2, 4, 10, 0, 3, 1, 1, 1);
        Due.due("counts that fit", x.fits(2), 1L << 10);
        Due.due("mirrored", x.mirrored(2, 6), 10);
        Due.due("shorthand", x.shorthand(2, 0), 'k');
        Due.due("the smallest part", x.unit(2), 7);
        Due.due("yarn", x.yarn(), 104 + 106 + 3 * 12 + 4 * 10);
        Due.due("ripping back", x.rip(3), 0);
    }

    private static void atMost512Calls() {
        Doc.says("An object is used for at most 512 calls after it has been made; what later calls answer is free.");
        KnitReader x = new KnitReader();
        for (int call = 1; call <= 256; call++) {
            Due.due("feed as call " + (2 * call - 1), x.feed('k'), 1);
            Due.due("line as call " + 2 * call, x.line(), call <= 20 ? call - 1 : Due.FULL);
        }
    }

    /** No more and no less than the document has, and NONE. */
    private static void publicFace() {
        Doc.says("## The public face ```java public final class KnitReader { public static final int NONE = -1; public KnitReader();");
        Doc.says(FACE);
        Doc.says("} ```");
        Set<String> due = new TreeSet<>();
        Matcher told = Pattern.compile("public (\\w+) (\\w+)\\(([^)]*)\\);").matcher(FACE);
        while (told.find()) {
            due.add(told.group(1) + " " + told.group(2) + "(" + told.group(3).replaceAll(" \\w+(,|$)", "$1") + ")");
        }
        Set<String> found = new TreeSet<>();
        for (Method method : KnitReader.class.getDeclaredMethods()) {
            if (!Modifier.isPrivate(method.getModifiers())) {
                Due.due("public, and of the object: " + method, method.getModifiers(), Modifier.PUBLIC);
                StringBuilder types = new StringBuilder();
                for (Class<?> type : method.getParameterTypes()) {
                    types.append(types.length() == 0 ? "" : ", ").append(type);
                }
                found.add(method.getReturnType() + " " + method.getName() + "(" + types + ")");
            }
        }
        Due.due("methods of the face", due.size(), 43);
        Due.due("methods are " + found, found.equals(due) ? 1 : 0, 1);
        Due.due("NONE", KnitReader.NONE, -1);
        Due.due("public constructors", KnitReader.class.getConstructors().length, 1);
        Due.due("public fields", KnitReader.class.getFields().length, 1);
        Due.due("public and final", KnitReader.class.getModifiers(), Modifier.PUBLIC | Modifier.FINAL);
    }

    /** What is not promised can't be tested; two objects have nothing in common all the same. */
    private static void notPromised() {
        Doc.says("## Not promised How the state is held inside the object is free, as are the speed of each call, the text of toString "
            + "and the behaviour of equals and hashCode. Use of one object from several threads at once is not promised to be safe. "
            + "Nothing is promised beyond the answers and state changes described above, and nothing about an object after its 512th "
            + "call.");
        KnitReader x = new KnitReader();
        KnitReader y = new KnitReader();
        x.feed('k');
        y.feed('p');
        y.feed('2');
        x.line();
        y.line();
        x.cast(1);
        y.cast(2);
        x.row(0, 2, 1);
        y.row(0, 2, 1);
        x.set(0, 0, 7);
        x.image();
        x.work(0);
        y.set(0, 0, 8);
        y.seed(9);
        Due.due("nothing of the other is kept", y.back(), Due.STUCK);
        Due.due("ROW of one", x.text(0, 0), 'k');
        Due.due("ROW of the other", y.text(0, 0), 'p');
        Due.due("WORKED ROWS of one", x.status(1), 1);
        Due.due("WORKED ROWS of the other", y.status(1), 0);
        Due.due("SHELF of one", x.element(0, 0), 7);
        Due.due("SHELF of the other", y.element(0, 0), 8);
        Due.due("SEED of one", x.status(6), 1);
        Due.due("REFUSALS of one", x.status(15), 0);
    }
}
