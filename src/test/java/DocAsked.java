/** DocumentTest's third part: Terms, 3. WHAT IS ASKED. */
final class DocAsked {
    private DocAsked() {
    }

    static void go() {
        chart();
        shorthand();
        unit();
        mirrored();
        roots();
        days();
        draws();
        shelves();
        rowsOfNumbers();
    }

    /** The ROW 1, WORKED on the WRONG SIDE (ROW 0 is of as many KNITS). */
    static KnitReader wrong(int n, String row) {
        KnitReader x = Due.knit(n, "<k>0", row);
        Due.due("run(0, 1, 1) of " + row, x.run(0, 1, 1), 2);
        Due.due("SIDE of " + row, x.workedOf(1, 0), 1);
        return x;
    }

    private static KnitReader right(int n, String row) {
        KnitReader x = Due.knit(n, row);
        x.work(0);
        Due.due("SIDE of " + row, x.workedOf(0, 0), 0);
        return x;
    }

    private static void chart() {
        Doc.says("==== 3. WHAT IS ASKED (nothing is changed) ```text THE CHART of a WORKED ROW, as it looks from the right side, columns from "
            + "the right (0 on): of a RIGHT one its STITCHES in the order worked; of a WRONG one from the last to the first, and TURNED: "
            + "KNIT for PURL, PURL for KNIT, RIGHT for LEFT, LEFT for RIGHT, others as they are.");
        KnitReader x = right(11, "k,p,sl,yo,m,kt,sk,bo,sd");
        KnitReader y = wrong(11, "k,p,sl,yo,m,kt,sk,bo,sd");
        int[] turned = {12, 11, 9, 10, 8, 7, 6, 4, 5};
        for (int column = 0; column < 9; column++) {
            Due.due("RIGHT, column " + column, x.chart(0, column), 4 + column);
            Due.due("WRONG, column " + column, y.chart(1, column), turned[column]);
        }
        Due.due("its STITCHES are as they were", y.stitch(1, 0, 0), 4);
    }

    private static void told(KnitReader x, int worked, String text) {
        for (int i = 0; i < text.length(); i++) {
            Due.due("byte " + i + " of " + text, x.shorthand(worked, i), text.charAt(i));
        }
        Due.due("behind " + text, x.shorthand(worked, text.length()), -1);
    }

    private static void shorthand() {
        Doc.says("SHORTHAND of a WORKED ROW: runs of one KIND as WORD and number (no number for 1), with , between.");
        String row = "(k,p2)2,<kt,sk>4,sd,yo,yo10,m1,bo";
        String due = "k,p2,k,p2,kt,sk,kt,sk,sd,yo11,m,bo";
        told(right(18, row), 0, due);
        told(wrong(18, row), 1, due);
        told(right(60, "<sl>0"), 0, "sl60");
        told(right(58, "k8,p9,sl10,k11,p20"), 0, "k8,p9,sl10,k11,p20");
        told(wrong(1, "k"), 1, "k");
        told(right(0, "<k>0"), 0, "");
    }

    private static void unit() {
        Doc.says("UNIT of it: the least n such that each STITCH is of the KIND of that n ahead, and n divides how many there are.");
        String[] rows = {"k", "k12", "(k,p)6", "(k,p)5,k,k", "(k,p,p)4", "(k2,p2)3", "((k,p)2,k,k)2", "(k,p)5,k", "k11,p"};
        int[] units = {1, 1, 2, 12, 3, 4, 6, 11, 12};
        int[] needle = {1, 12, 12, 12, 12, 12, 12, 11, 12};
        for (int i = 0; i < rows.length; i++) {
            Due.due("UNIT of " + rows[i], right(needle[i], rows[i]).unit(0), units[i]);
            Due.due("UNIT of a WRONG " + rows[i], wrong(needle[i], rows[i]).unit(1), units[i]);
        }
        Due.due("a DOUBLE is no LEFT", right(10, "sk,sd,sk,sd").unit(0), 2);
    }

    private static void mirrored() {
        Doc.says("MIRRORED is a WORKED ROW: its STITCHES from the last to the first, RIGHT for LEFT, LEFT for RIGHT.");
        KnitReader x = right(11, "k,p,sl,yo,m,kt,sk,bo,sd");
        KnitReader y = wrong(11, "k,p,sl,yo,m,kt,sk,bo,sd");
        int[] due = {12, 11, 9, 10, 8, 7, 6, 5, 4};
        for (int i = 0; i < 9; i++) {
            Due.due("MIRRORED " + i, x.mirrored(0, i), due[i]);
            Due.due("MIRRORED " + i + " of a WRONG one", y.mirrored(1, i), due[i]);
        }
    }

    private static void roots() {
        Doc.says("ROOTS of a STITCH made (the j-th on the needle behind a WORKED ROW, in the order made): which of those on the needle ahead "
            + "of it it TOOK (bits, by the order to be worked; none: 0).");
        KnitReader x = right(8, "sd,yo,bo,kt,k,m,p");
        KnitReader y = wrong(8, "sd,yo,bo,kt,k,m,p");
        long[] due = {7, 0, 48, 64, 0, 128};
        for (int j = 0; j < due.length; j++) {
            Due.due("ROOTS " + j, x.roots(0, j), due[j]);
            Due.due("ROOTS " + j + " of a WRONG one", y.roots(1, j), due[j]);
        }
        Due.due("ROOTS of no more", x.roots(0, 6), -92 - Due.FAR);
    }

    /** Of 2 ROWS: the upper bits of the first four DRAWS are 16838, 38526, 10113, 50283. */
    private static void days() {
        Doc.says("IN TRUTH a DAY by draws: the ROW of a DRAW below how many there are is WORKED; if that can't be: 1 ROW is RIPPED BACK, if "
            + "there is one.");
        KnitReader x = Due.knit(3, "k3", "k4");
        Due.due("ROW 0, ROW 0", x.days(2), 2);
        Due.due("WORKED ROWS", x.status(1), 2);
        Due.due("ROW 1 can't be", x.days(1), 0);
        Due.due("one is RIPPED BACK", x.status(1), 1);
        Due.due("SIDE", x.status(3), 1);
        Due.due("ROW 1 can't be", x.days(1), 0);
        Due.due("one is RIPPED BACK", x.status(1), 0);
        KnitReader y = Due.knit(3, "k4");
        Due.due("can't be", y.days(3), 0);
        Due.due("none was there", y.status(2), 3);
    }

    private static void draws() {
        Doc.says("A DRAW below n: SEED (1 at first) becomes SEED times 1103515245, and 12345 (an int, wrapping); its upper 16 bits, no sign, "
            + "modulo n.");
        KnitReader x = new KnitReader();
        for (int line = 0; line < 20; line++) {
            Due.tell(x, "k");
        }
        x.cast(1);
        int[] seeds = {1103527590, (int) 2524885223L, 662824084, (int) 3295386429L};
        int[] upper = {16838, 38526, 10113, 50283};
        Due.due("SEED at first", x.status(6), 1);
        for (int day = 0; day < 4; day++) {
            x.days(1);
            Due.due("SEED", x.status(6), seeds[day]);
            Due.due("the ROW of the DRAW", x.workedOf(day, 5), upper[day] % 20);
        }
    }

    private static void shelves() {
        Doc.says("SHELVES 0 to 7 hold NOTHING (at first), a ROW OF NUMBERS, or a STITCH.");
        KnitReader x = right(2, "kt");
        for (int s = 0; s < 8; s++) {
            Due.due("NOTHING at first in " + s, x.holds(s), -1);
            Due.due("row in " + s, x.row(s, 3, 2), 1);
            Due.due("a ROW OF NUMBERS in " + s, x.holds(s), 3);
            Due.due("show in " + s, x.show(s, 0, 0), 1);
            Due.due("a STITCH in " + s, x.holds(s), 19);
        }
        Due.due("no SHELF 8", x.row(8, 3, 2), Due.BAD);
        Due.due("no SHELF -1", x.row(-1, 3, 2), Due.BAD);
    }

    private static void rowsOfNumbers() {
        Doc.says("A ROW OF NUMBERS has a SORT (0 bytes, 1 shorts, 2 ints, 3 longs, 4 booleans) and 0 to 40 elements (0, or not so, at "
            + "first); what is put in keeps its lowest bits (of booleans: whether it is not 0); told they are numbers (1, 0). ```");
        long v = 0x123456789abcdef0L;
        long[][] due = {{(byte) 0xf0, 0x5a}, {(short) 0xdef0, 0x5a5a}, {(int) 0x9abcdef0L, 0x5a5a5a5a}, {v, 0x5a5a5a5a5a5a5a5aL}, {1, 1}};
        for (int sort = 0; sort < 5; sort++) {
            for (int n = 0; n <= 40; n += 8) {
                KnitReader x = new KnitReader();
                Due.due("row of " + n, x.row(0, sort, n), 1);
                for (int i = 0; i < n; i++) {
                    Due.due("at first", x.element(0, i), 0);
                    Due.due("set", x.set(0, i, i % 2 == 0 ? v : 0x5a5a5a5a5a5a5a5aL), 1);
                }
                for (int i = 0; i < n; i++) {
                    Due.due("element " + i + " of SORT " + sort, x.element(0, i), due[sort][i % 2]);
                }
                for (int i = 0; i < n; i++) {
                    x.set(0, i, i % 2 == 0 ? 0 : -1);
                    Due.due("0 and -1 of SORT " + sort, x.element(0, i), i % 2 == 0 ? 0 : sort == 4 ? 1 : -1);
                }
                Due.due("no element " + n, x.set(0, n, 1), Due.BAD);
            }
            Due.due("no 41 elements", new KnitReader().row(0, sort, 41), Due.BAD);
        }
    }
}
