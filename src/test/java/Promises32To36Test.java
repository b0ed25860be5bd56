/** Promises 32 to 36, sentence by sentence: what the host asks. */
public final class Promises32To36Test {
    private static final int BAD = FlatToLet.BAD;
    private static final int NOTHING = -11, OUTSIDE = -12, OTHER = -13, BELOW = -14;
    private static final int MIN = Integer.MIN_VALUE, MAX = Integer.MAX_VALUE;
    private static final Check check = new Check();

    public static void main(String[] args) {
        sheet();
        cell();
        cellBits();
        copy();
        copyOwn();
        copyRefused();
        viewersBy();
        viewersByOutside();
        viewersByRefused();
        taken();
        takenRefused();
        check.end();
    }

    /** The size of a sheet, or a refusal. */
    private static int size(FlatToLet x, int s) {
        for (int n = 40; n > 0; n--) {
            int answer = x.copy(s, 0, s, 0, n);
            if (answer != OUTSIDE) return answer;
        }
        return 0;
    }

    /** Number i of a sheet, if it is 0 .. 999: alone in sheet 3 it tells an offer, and so a RICH; -1: it is another. */
    private static int number(FlatToLet x, int s, int sort, int i) {
        x.sheet(3, sort, 1);
        x.copy(s, i, 3, 0, 1);
        return x.riches(2, 3, 0, 1);
    }

    /** An object with a viewer who offers what it has by sheet 2, so that number() can ask; sheets 0, 1 are free. */
    private static FlatToLet telling() {
        FlatToLet x = Check.under("likes 1;keeps 1;offers rich;");
        x.viewer(0, 0);
        Check.sheet(x, 2, 2, 0);
        return x;
    }

    private static void sheet() {
        check.says("Promise 32", "A SHEET becomes a row of n of a sort, all 0, or missing (sort -1: n does not matter): 1. BAD: SHEET, sort, n above 40; -14.");
        FlatToLet x = telling();
        for (int sort = 0; sort < 3; sort++) {
            for (int n : new int[] {0, 1, 40}) {
                check.due("sheet of " + n, x.sheet(1, sort, n), 1);
                check.due("so many", size(x, 1), n);
                check.due("none behind", x.cell(1, n, 0), OUTSIDE);
            }
            for (int i = 0; i < 3; i++) x.cell(1, i, 7);
            x.sheet(1, sort, 3);
            for (int i = 0; i < 3; i++) check.due("all 0", number(x, 1, sort, i), 0);
        }
        FlatToLet y = telling();
        Check.sheet(y, 1, 1, 4, 5, 6);
        for (int s : new int[] {-1, 4, MIN, MAX}) {
            for (int sort : new int[] {-2, -1, 0, 3}) check.due("sheet " + s, y.sheet(s, sort, 41), BAD);
        }
        for (int sort : new int[] {-2, 3, MIN, MAX}) {
            for (int n : new int[] {-1, 0, 40, 41}) check.due("sort " + sort, y.sheet(1, sort, n), BAD);
        }
        for (int sort = 0; sort < 3; sort++) {
            for (int n : new int[] {41, 1000, MAX}) check.due("n " + n, y.sheet(1, sort, n), BAD);
            for (int n : new int[] {-1, -40, MIN}) check.due("n " + n, y.sheet(1, sort, n), BELOW);
        }
        check.due("as it was", size(y, 1), 3);
        for (int i = 0; i < 3; i++) check.due("as it was", number(y, 1, 1, i), 4 + i);
        allFull();
        for (int n : new int[] {MIN, -1, 0, 1, 40, 41, MAX}) {
            check.due("a row", y.sheet(1, 0, 2), 1);
            check.due("missing, n " + n, y.sheet(1, -1, n), 1);
            check.due("nothing there", y.cell(1, 0, 0), NOTHING);
            check.due("missing once more", y.sheet(1, -1, n), 1);
        }
    }

    /** Four sheets of forty numbers, each its own. */
    private static void allFull() {
        FlatToLet x = new FlatToLet();
        check.due("an image of nobody", x.image(), 0);
        for (int s = 0; s < 4; s++) {
            x.sheet(s, 2, 40);
            for (int i = 0; i < 40; i++) x.cell(s, i, 60 * i % 41 + 10000 * s);
            if (s > 0) x.cell(s, 0, s);
        }
        for (int s = 0; s < 4; s++) {
            x.cell(s, 38, 50 + s);
            x.cell(s, 39, 99990 + s);
        }
        for (int s = 0; s < 4; s++) {
            x.viewersBy(s, 2, 0, 1);
            is(x, 0, s, 60 % 41 + 10000 * s);
            x.back();
            x.viewersBy(s, 2, 38, 1);
            is(x, 0, 50 + s, 99990 + s);
            x.back();
        }
        for (int s = 3; s > 0; s--) {
            int from = s - 1;
            check.due("the last", x.copy(s, 39, from, 39, 1), 1);
            check.due("all but the first", x.copy(from, 1, s, 1, 39), 39);
            x.viewersBy(s, 2, 38, 1);
            is(x, 0, 50 + from, 99993);
            x.back();
        }
    }

    private static void cell() {
        check.says("Promise 33", "BAD: SHEET; -11; -12.");
        FlatToLet x = telling();
        for (int sort = 0; sort < 3; sort++) {
            x.sheet(0, sort, 3);
            for (int i = 0; i < 3; i++) check.due("cell " + i, x.cell(0, i, 40 + i), 1);
            for (int i : new int[] {-1, 3, 4, 40, MIN, MAX}) check.due("cell " + i, x.cell(0, i, 99), OUTSIDE);
            for (int i = 0; i < 3; i++) check.due("cell " + i, number(x, 0, sort, i), 40 + i);
        }
        x.sheet(0, 2, 40);
        check.due("cell 39", x.cell(0, 39, 5), 1);
        check.due("cell 40", x.cell(0, 40, 5), OUTSIDE);
        x.sheet(0, 2, 0);
        check.due("cell 0 of none", x.cell(0, 0, 5), OUTSIDE);
        for (int i : new int[] {-1, 0, 3}) check.due("missing", x.cell(1, i, 5), NOTHING);
        for (int s : new int[] {-1, 4, MIN, MAX}) {
            for (int i : new int[] {-1, 0, 3}) check.due("sheet " + s, x.cell(s, i, 5), BAD);
        }
        // neighbours stay
        Check.sheet(x, 0, 2, 1, 2, 3);
        Check.sheet(x, 1, 2, 4, 5, 6);
        x.cell(0, 2, 33);
        x.cell(1, 0, 44);
        int[][] due = {{1, 2, 33}, {44, 5, 6}};
        for (int s = 0; s < 2; s++) {
            for (int i = 0; i < 3; i++) check.due("number " + i + " of " + s, number(x, s, 2, i), due[s][i]);
        }
    }

    private static void cellBits() {
        check.says("Promise 33", "Number i of a SHEET becomes v (of bytes, shorts its lowest 8, 16 bits): 1.");
        int[] values = {0, 1, 127, 256, 257, 383, 512, 999, 1000, 32767, 65535, 65536, 65537, 66535, 66536, -256, -255, -65536, -65535, MIN, MIN + 5, MAX};
        int[] bytes = {0, 1, 127, 0, 1, 127, 0, -1, -1, -1, -1, 0, 1, -1, -1, 0, 1, 0, 1, 0, 5, -1};
        int[] shorts = {0, 1, 127, 256, 257, 383, 512, 999, -1, -1, -1, 0, 1, 999, -1, -1, -1, 0, 1, 0, 5, -1};
        int[] ints = {0, 1, 127, 256, 257, 383, 512, 999, -1, -1, -1, -1, -1, -1, -1, -1, -1, -1, -1, -1, -1, -1};
        int[][] due = {bytes, shorts, ints};
        for (int sort = 0; sort < 3; sort++) {
            FlatToLet x = telling();
            x.sheet(0, sort, 1);
            for (int i = 0; i < values.length; i++) {
                check.due("cell", x.cell(0, 0, values[i]), 1);
                check.due("sort " + sort + ", " + values[i], number(x, 0, sort, 0), due[sort][i]);
            }
        }
    }

    private static void copy() {
        check.says("Promise 34", "n numbers of a SHEET, from i on, come to another one's (or its own) place j (as they were): n.");
        for (int sort = 0; sort < 3; sort++) {
            for (int i = 0; i <= 4; i++) {
                for (int j = 0; j <= 3; j++) {
                    for (int n = 0; n <= 5; n++) {
                        FlatToLet x = telling();
                        Check.sheet(x, 0, sort, 11, 12, 13, 14);
                        Check.sheet(x, 1, sort, 21, 22, 23);
                        boolean can = i + n <= 4 && j + n <= 3;
                        String call = "copy(0, " + i + ", 1, " + j + ", " + n + ")";
                        check.due(call, x.copy(0, i, 1, j, n), can ? n : OUTSIDE);
                        for (int k = 0; k < 3; k++) {
                            int due = can && k >= j && k < j + n ? 11 + i + k - j : 21 + k;
                            check.due(call + ", then " + k, number(x, 1, sort, k), due);
                        }
                        for (int k = 0; k < 4; k++) check.due(call + ", of the other", number(x, 0, sort, k), 11 + k);
                    }
                }
            }
        }
        FlatToLet x = telling();
        x.sheet(0, 0, 40);
        x.sheet(1, 0, 40);
        x.cell(0, 39, 99);
        check.due("forty", x.copy(0, 0, 1, 0, 40), 40);
        check.due("the last of them", number(x, 1, 0, 39), 99);
        check.due("none to the end", x.copy(0, 40, 1, 40, 0), 0);
        check.due("one more", x.copy(0, 1, 1, 0, 40), OUTSIDE);
        check.due("one more", x.copy(0, 0, 1, 1, 40), OUTSIDE);
        check.due("a number below 0, too", number(signs(), 1, 2, 0), -1);
    }

    /** A sheet whose one number came as -7: it is no room, and no offer. */
    private static FlatToLet signs() {
        FlatToLet x = telling();
        Check.sheet(x, 0, 2, -7);
        Check.sheet(x, 1, 2, 3);
        x.copy(0, 0, 1, 0, 1);
        check.due("no tour", x.tour(1, 0, 1, 0), -1000002);
        return x;
    }

    private static void copyOwn() {
        check.says("Promise 34", "(or its own) place j (as they were)");
        for (int sort = 0; sort < 3; sort++) {
            for (int i = 0; i < 5; i++) {
                for (int j = 0; j < 5; j++) {
                    int n = 5 - Math.max(i, j);
                    FlatToLet x = telling();
                    Check.sheet(x, 0, sort, 11, 12, 13, 14, 15);
                    String call = "copy(0, " + i + ", 0, " + j + ", " + n + ")";
                    check.due(call, x.copy(0, i, 0, j, n), n);
                    for (int k = 0; k < 5; k++) {
                        check.due(call + ", then " + k, number(x, 0, sort, k), k >= j && k < j + n ? 11 + i + k - j : 11 + k);
                    }
                }
            }
        }
    }

    private static void copyRefused() {
        check.says("Promise 34", "BAD: SHEETS; -11; -13: unlike sorts; -12 (n below 0, too).");
        FlatToLet x = telling();
        Check.sheet(x, 0, 2, 11, 12, 13);
        Check.sheet(x, 1, 1, 21, 22, 23);
        for (int s : new int[] {-1, 4, MIN, MAX}) {
            check.due("sheet " + s, x.copy(s, 0, 0, 0, 1), BAD);
            check.due("other " + s, x.copy(0, 0, s, 0, 1), BAD);
            check.due("other " + s + ", ahead of missing", x.copy(3, -1, s, 0, -1), BAD);
            check.due("sheet " + s + ", ahead of missing", x.copy(s, -1, 3, 0, -1), BAD);
        }
        check.due("missing", x.copy(3, 0, 0, 0, 0), NOTHING);
        check.due("the other missing", x.copy(0, 0, 3, 0, 0), NOTHING);
        check.due("both missing", x.copy(3, 0, 3, 0, 0), NOTHING);
        check.due("missing, ahead of outside", x.copy(0, 9, 3, 9, -1), NOTHING);
        check.due("unlike sorts", x.copy(0, 0, 1, 0, 1), OTHER);
        check.due("unlike sorts, none", x.copy(1, 0, 0, 0, 0), OTHER);
        check.due("unlike sorts, ahead of outside", x.copy(1, -1, 0, 9, -1), OTHER);
        for (int s = 0; s < 3; s += 2) {
            for (int n : new int[] {-1, -3, 4, 41, MIN, MAX}) check.due("n " + n, x.copy(s, 0, 0, 0, n), OUTSIDE);
            for (int i : new int[] {-1, 3, 40, MIN, MAX}) check.due("i " + i, x.copy(0, i, s, 0, 1), OUTSIDE);
            for (int j : new int[] {-1, 3, 40, MIN, MAX}) check.due("j " + j, x.copy(s, 0, 0, j, 1), OUTSIDE);
            for (int i : new int[] {-1, 4, 41, MIN, MAX}) {
                check.due("none from " + i, x.copy(0, i, s, 0, 0), OUTSIDE);
                check.due("none to " + i, x.copy(s, 0, 0, i, 0), OUTSIDE);
            }
            check.due("so far that it wraps", x.copy(0, MAX, s, 0, MAX), OUTSIDE);
            check.due("so far that it wraps", x.copy(0, 0, s, MAX - 1, 2), OUTSIDE);
            check.due("so far that it wraps", x.copy(0, MIN, s, MIN, MIN), OUTSIDE);
            check.due("so far that it wraps", x.copy(0, 1, s, 1, MAX), OUTSIDE);
        }
        check.due("none from the end", x.copy(0, 3, 0, 3, 0), 0);
        for (int k = 0; k < 3; k++) {
            check.due("as it was", number(x, 0, 2, k), 11 + k);
            check.due("as it was", number(x, 1, 1, k), 21 + k);
        }
    }

    // ---- viewers by a sheet

    private static void is(FlatToLet x, int v, int kindMore, int richQuiet) {
        check.due("kind of " + v, x.one(v, 2), kindMore / 10);
        check.due("more of " + v, x.one(v, 3), kindMore % 10);
        check.due("rich of " + v, x.one(v, 0), richQuiet / 100);
        check.due("quiet of " + v, x.one(v, 1), richQuiet % 100);
    }

    private static void viewersBy() {
        check.says("Promise 35", "VIEWERS by a SHEET of a sort: from a place on, two by two (as of viewer()), n of them (0 .. 8): how many came (others are left out).");
        FlatToLet x = new FlatToLet();
        Check.sheet(x, 0, 2, 0, 0, 59, 99999, 60, 0, 23, 100000, -1, 5, 5, -1, 34, 5678);
        check.due("all eight places: three", x.viewersBy(0, 2, 0, 7), 3);
        is(x, 0, 0, 0);
        is(x, 1, 59, 99999);
        is(x, 2, 34, 5678);
        check.due("none came else", x.count(0), 3);
        check.due("none", x.viewersBy(0, 2, 0, 0), 0);
        check.due("left out alone", x.viewersBy(0, 2, 4, 4), 0);
        check.due("from another place: 0 59, and 99999 60 not", x.viewersBy(0, 2, 1, 2), 1);
        is(x, 3, 0, 59);
        FlatToLet y = new FlatToLet();
        Check.sheet(y, 0, 0, 11, 101, 22, 127, 33, 128, 44, 255);
        check.due("of bytes: those of 128, 255 are below 0", y.viewersBy(0, 0, 0, 4), 2);
        is(y, 0, 11, 101);
        is(y, 1, 22, 127);
        Check.sheet(y, 0, 1, 11, 32767, 22, 32768, 65536 + 33, 65536 + 3303);
        check.due("of shorts: that of 32768 is below 0", y.viewersBy(0, 1, 0, 3), 2);
        is(y, 2, 11, 32767);
        is(y, 3, 33, 3303);
        FlatToLet z = new FlatToLet();
        z.sheet(0, 2, 40);
        for (int i = 0; i < 40; i++) z.cell(0, i, i);
        check.due("eight of forty", z.viewersBy(0, 2, 24, 8), 8);
        for (int v = 0; v < 8; v++) is(z, v, 24 + 2 * v, 25 + 2 * v);
        check.due("none has room", z.viewersBy(0, 2, 24, 8), 0);
        FlatToLet seven = new FlatToLet();
        for (int v = 0; v < 7; v++) seven.viewer(0, 0);
        Check.sheet(seven, 0, 2, 60, 0, 12, 3456, 23, 4567);
        check.due("one bad, one comes, one has no room", seven.viewersBy(0, 2, 0, 3), 1);
        is(seven, 7, 12, 3456);
    }

    private static void viewersByOutside() {
        check.says("Promise 35", "-12: what stood ahead came.");
        for (int size = 0; size <= 7; size++) {
            for (int from = 0; from <= 8; from++) {
                for (int n = 0; n <= 8; n++) {
                    FlatToLet x = new FlatToLet();
                    x.sheet(0, 2, size);
                    for (int i = 0; i < size; i++) x.cell(0, i, 10 + i);
                    int pairs = Math.max(0, (size - from) / 2);
                    String call = "viewersBy(0, 2, " + from + ", " + n + ") of " + size;
                    check.due(call, x.viewersBy(0, 2, from, n), n <= pairs ? n : OUTSIDE);
                    check.due(call + ": came", x.count(0), Math.min(n, pairs));
                    for (int v = 0; v < Math.min(n, pairs); v++) is(x, v, 10 + from + 2 * v, 11 + from + 2 * v);
                }
            }
        }
        FlatToLet x = new FlatToLet();
        Check.sheet(x, 0, 2, 1, 2, 60, 0, 3, 4, 5);
        check.due("one left out, two came, then outside", x.viewersBy(0, 2, 0, 4), OUTSIDE);
        check.due("two came", x.count(0), 2);
        is(x, 0, 1, 2);
        is(x, 1, 3, 4);
        for (int from : new int[] {-1, -2, 6, 7, 8, 40, MIN, MIN + 1, MAX, MAX - 1}) {
            check.due("from " + from, x.viewersBy(0, 2, from, 1), OUTSIDE);
            check.due("from " + from, x.viewersBy(0, 2, from, 8), OUTSIDE);
        }
        check.due("none came", x.count(0), 2);
        for (int v = 2; v < 8; v++) x.viewer(0, 0);
        check.due("none has room, and outside", x.viewersBy(0, 2, 0, 4), OUTSIDE);
        check.due("none came", x.count(0), 8);
    }

    private static void viewersByRefused() {
        check.says("Promise 35", "BAD: SHEET, sort, n; -11; -13; -12");
        FlatToLet x = new FlatToLet();
        Check.sheet(x, 0, 1, 1, 2, 3, 4);
        for (int s : new int[] {-1, 4, MIN, MAX}) check.due("sheet " + s, x.viewersBy(s, 1, 0, 1), BAD);
        for (int sort : new int[] {-1, 3, MIN, MAX}) check.due("sort " + sort, x.viewersBy(0, sort, 0, 1), BAD);
        for (int n : new int[] {-1, 9, MIN, MAX}) check.due("n " + n, x.viewersBy(0, 1, 0, n), BAD);
        check.due("sort, ahead of missing", x.viewersBy(1, 3, 0, 1), BAD);
        check.due("n, ahead of missing", x.viewersBy(1, 1, 0, 9), BAD);
        check.due("n, ahead of another sort", x.viewersBy(0, 2, 0, 9), BAD);
        check.due("n, ahead of outside", x.viewersBy(0, 1, 4, 9), BAD);
        for (int sort = 0; sort < 3; sort++) check.due("missing", x.viewersBy(1, sort, -1, 1), NOTHING);
        check.due("missing, none", x.viewersBy(1, 1, 0, 0), NOTHING);
        for (int sort = 0; sort < 3; sort += 2) {
            check.due("another sort", x.viewersBy(0, sort, 0, 1), OTHER);
            check.due("another sort, none", x.viewersBy(0, sort, 0, 0), OTHER);
            check.due("another sort, ahead of outside", x.viewersBy(0, sort, 4, 8), OTHER);
        }
        check.due("none came", x.count(0), 0);
        check.due("its own sort", x.viewersBy(0, 1, 0, 2), 2);
    }

    // ---- what is taken

    private static void taken() {
        check.says("Promise 36", "taken for 0 .. 5 a VIEWER of that KIND (also of one that is one): the number; 6 how QUIET one is.");
        // by KIND: 0 .. 5 it is one of
        boolean[][] is = {
            {true, false, false, false, false, false},
            {true, true, false, false, false, false},
            {true, false, true, false, false, false},
            {true, true, false, true, false, false},
            {true, false, true, false, true, false},
            {true, false, false, false, false, true},
        };
        for (int kind = 0; kind < 6; kind++) {
            FlatToLet x = new FlatToLet();
            for (int v = 0; v < 8; v++) {
                x.viewer(10 * (v == 7 || v == 0 ? kind : 0) + 9 - v, 100 * v + 90 - v);
            }
            for (int v = 0; v < 8; v++) {
                for (int as = 0; as < 6; as++) {
                    boolean fits = is[v == 7 || v == 0 ? kind : 0][as];
                    check.due("taken(" + v + ", " + as + ")", x.taken(v, as), fits ? v : OTHER);
                    check.due("taken(" + (v + 8) + ", " + as + ")", x.taken(v + 8, as), OTHER);
                }
                check.due("taken(" + v + ", 6)", x.taken(v, 6), OTHER);
                check.due("taken(" + (v + 8) + ", 6)", x.taken(v + 8, 6), 90 - v);
            }
        }
        FlatToLet y = new FlatToLet();
        y.viewer(0, 0);
        check.due("not quiet at all", y.taken(8, 6), 0);
        y.put(0, 1, 99);
        check.due("most quiet", y.taken(8, 6), 99);
    }

    private static void takenRefused() {
        check.says("Promise 36", "BAD: kind; -12: i; -11: no such VIEWER; -13.");
        FlatToLet x = new FlatToLet();
        x.viewer(10, 50);
        for (int kind : new int[] {-1, 7, MIN, MAX}) {
            for (int i : new int[] {-1, 0, 1, 8, 9, 15, 16}) check.due("kind " + kind, x.taken(i, kind), BAD);
        }
        for (int kind = 0; kind <= 6; kind++) {
            for (int i : new int[] {-1, 16, 17, MIN, MAX}) check.due("place " + i, x.taken(i, kind), OUTSIDE);
            for (int i : new int[] {1, 7, 9, 15}) check.due("nobody at " + i, x.taken(i, kind), NOTHING);
        }
        check.due("a couple is no student", x.taken(0, 2), OTHER);
        check.due("a couple is no doctor", x.taken(0, 3), OTHER);
        check.due("quiet is no viewer", x.taken(8, 0), OTHER);
        check.due("a viewer is not how quiet one is", x.taken(0, 6), OTHER);
        check.due("nobody at all", new FlatToLet().taken(0, 0), NOTHING);
        check.due("nobody at all", new FlatToLet().taken(8, 6), NOTHING);
    }
}
