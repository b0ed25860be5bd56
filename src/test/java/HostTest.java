/** Promises 32 to 36: the host. Cells can't be asked for, so that tours, viewers and told offers show them. */
public final class HostTest {
    private static final int BAD = FlatToLet.BAD;
    private static final int MIN = Integer.MIN_VALUE, MAX = Integer.MAX_VALUE;
    private static final Check check = new Check();

    public static void main(String[] args) {
        sheets();
        cells();
        copies();
        viewersBy();
        taken();
        check.end();
    }

    /** The six rooms of a sheet as digits, told by the last rooms of ever shorter tours; -1: it is no tour. */
    private static int digits(FlatToLet x, int s) {
        int digits = 0;
        int ten = 1;
        for (int n = 6; n >= 1; n--) {
            x.sheet(3, 2, n);
            x.copy(s, 0, 3, 0, n);
            int last = x.tour(3, 0, 1, 2);
            if (last < 0) return -1;
            digits += last * ten;
            ten *= 10;
        }
        return digits;
    }

    private static FlatToLet flat() {
        FlatToLet x = new FlatToLet();
        x.viewer(0, 0);
        Check.law(x, "likes room+1 ; keeps 1 ; offers 1 ;");
        return x;
    }

    private static void sheets() {
        FlatToLet x = flat();
        for (int s = 0; s < 4; s++) {
            for (int sort = 0; sort < 3; sort++) {
                check.due("sheet", x.sheet(s, sort, 6 + sort), 1);
                check.due("its last", x.cell(s, 5 + sort, 1), 1);
                check.due("outside", x.cell(s, 6 + sort, 1), -12);
            }
        }
        check.due("forty", x.sheet(0, 2, 40), 1);
        check.due("its last", x.cell(0, 39, 1), 1);
        check.due("outside", x.cell(0, 40, 1), -12);
        check.due("none", x.sheet(0, 1, 0), 1);
        check.due("outside", x.cell(0, 0, 1), -12);
        check.due("one", x.sheet(0, 2, 1), 1);
        x.cell(0, 0, 5);
        check.due("room 5", x.tour(0, 0, 1, 2), 6);
        check.due("all 0 again", x.sheet(0, 2, 1), 1);
        check.due("room 0", x.tour(0, 0, 1, 2), 1);
        x.cell(0, 0, 5);
        for (int n : new int[] {MIN, -5, 0, 41, MAX}) {
            x.sheet(0, 2, 1);
            check.due("missing, n does not matter", x.sheet(0, -1, n), 1);
            check.due("missing", x.cell(0, 0, 1), -11);
        }
        Check.sheet(x, 1, 2, 4);
        for (int s : new int[] {-1, 4, MIN, MAX}) {
            check.due("sheet", x.sheet(s, 0, 1), BAD);
            check.due("sheet, all else", x.sheet(s, 9, -1), BAD);
            check.due("sheet, missing", x.sheet(s, -1, 0), BAD);
        }
        for (int sort : new int[] {-2, 3, MIN, MAX}) check.due("sort", x.sheet(1, sort, -1), BAD);
        for (int n : new int[] {41, MAX}) check.due("n", x.sheet(1, 0, n), BAD);
        for (int n : new int[] {-1, -41, MIN}) check.due("n", x.sheet(1, 0, n), -14);
        check.due("refused, as it was", x.tour(1, 0, 1, 2), 5);
    }

    private static void cells() {
        FlatToLet x = flat();
        for (int s : new int[] {-1, 4, MIN, MAX}) check.due("sheet", x.cell(s, -1, 0), BAD);
        check.due("missing", x.cell(2, -1, 0), -11);
        x.sheet(2, 2, 3);
        for (int i : new int[] {-1, 3, 40, MIN, MAX}) check.due("place", x.cell(2, i, 0), -12);
        // told at 0: what is offered then
        int[][] told = {{0, 1, 1}, {0, 257, 1}, {0, -255, 1}, {0, 256 + 7, 0}, {1, 1, 1}, {1, 65537, 1}, {1, 257, 0},
            {1, -65535, 1}, {2, 1, 1}, {2, 257, 0}, {2, 65537, 0}, {2, MIN + 1, 0}};
        Check.sheet(x, 1, 2, 0);
        for (int[] row : told) {
            Check.sheet(x, 2, row[0], row[1]);
            check.due("sort " + row[0] + ", " + row[1], x.judge(1, 2, 0), row[2] == 1 ? -1 : 0);
        }
        x.put(0, 0, 300);
        Check.law(x, "likes 1 ; keeps 1 ; offers rich ;");
        Check.sheet(x, 2, 1, 65536 + 300);
        check.due("300 of a short", x.judge(1, 2, 0), -1);
        Check.sheet(x, 2, 0, 300);
        check.due("300 of a byte", x.judge(1, 2, 0), 0);
        x.put(0, 0, 300 - 256);
        check.due("300 of a byte is 44", x.judge(1, 2, 0), -1);
    }

    private static void copies() {
        FlatToLet x = flat();
        Check.sheet(x, 0, 2, 3, 1, 4, 0, 5, 2);
        check.due("the digits", digits(x, 0), 425163);
        Check.sheet(x, 1, 2, 0, 1, 2, 3, 4, 5);
        check.due("copy", x.copy(0, 0, 1, 0, 6), 6);
        check.due("all", digits(x, 1), 425163);
        Check.sheet(x, 1, 2, 0, 1, 2, 3, 4, 5);
        check.due("copy of two", x.copy(0, 4, 1, 4, 2), 2);
        check.due("5 2: none twice no more", digits(x, 1), -1);
        Check.sheet(x, 1, 2, 0, 1, 9, 3, 4, 9);
        check.due("copy of one", x.copy(0, 4, 1, 2, 1), 1);
        check.due("copy of another", x.copy(0, 5, 1, 5, 1), 1);
        check.due("two came", digits(x, 1), 126453);
        check.due("the first as it was", digits(x, 0), 425163);
        // its own: as they were
        Check.sheet(x, 1, 2, 0, 1, 2, 3, 4, 5);
        check.due("to behind", x.copy(1, 0, 1, 1, 5), 5);
        x.cell(1, 0, 5);
        check.due("to behind", digits(x, 1), 612345);
        check.due("to ahead", x.copy(1, 1, 1, 0, 5), 5);
        x.cell(1, 5, 5);
        check.due("to ahead", digits(x, 1), 123456);
        check.due("to itself", x.copy(1, 2, 1, 2, 3), 3);
        check.due("to itself", digits(x, 1), 123456);
        check.due("none", x.copy(1, 6, 0, 6, 0), 0);
        for (int bad : new int[] {-1, 4, MIN, MAX}) {
            check.due("sheet", x.copy(bad, -1, 0, 0, 1), BAD);
            check.due("other", x.copy(0, -1, bad, 0, 1), BAD);
            check.due("other, the first missing", x.copy(2, -1, bad, 0, 1), BAD);
        }
        x.sheet(2, -1, 0);
        check.due("missing", x.copy(2, -1, 0, 0, 1), -11);
        check.due("missing, the other", x.copy(0, -1, 2, 0, 1), -11);
        check.due("missing, both", x.copy(2, -1, 2, 0, 1), -11);
        for (int sort = 0; sort < 2; sort++) {
            x.sheet(2, sort, 6);
            check.due("unlike sorts", x.copy(0, -1, 2, 0, 1), -13);
            check.due("unlike sorts", x.copy(2, 0, 0, 0, 6), -13);
        }
        int[][] outside = {{-1, 0, 1}, {0, -1, 1}, {0, 0, -1}, {0, 0, 7}, {1, 0, 6}, {0, 1, 6}, {6, 0, 1}, {0, 6, 1},
            {7, 0, 0}, {0, 7, 0}, {MAX, 0, 1}, {0, MAX, 1}, {0, 0, MAX}, {1, 1, MAX}, {MAX, MAX, MAX}, {MIN, 0, MIN},
            {0, 0, MIN}, {MIN, MIN, MIN}, {MAX, 0, MIN}, {MIN, 0, MAX}, {0, MIN, MAX}};
        for (int[] row : outside) {
            check.due("outside", x.copy(0, row[0], 1, row[1], row[2]), -12);
            check.due("outside, its own", x.copy(0, row[0], 0, row[1], row[2]), -12);
        }
        check.due("as it was", digits(x, 1), 123456);
        check.due("as it was", digits(x, 0), 425163);
        Check.sheet(x, 2, 0, 255, 1);
        Check.sheet(x, 1, 0, 0, 0);
        check.due("bytes", x.copy(2, 0, 1, 0, 2), 2);
        check.due("-1 is no room", x.tour(1, 0, 1, 0), -1000002);
        x.cell(1, 0, 2);
        check.due("3 and 2", x.tour(1, 0, 1, 0), 5);
    }

    private static void viewersBy() {
        FlatToLet x = new FlatToLet();
        check.due("missing", x.viewersBy(0, 2, 0, 1), -11);
        Check.sheet(x, 0, 2, 99, 47, 99999, 60, 100, 59, 100000, 0, 0);
        check.due("none", x.viewersBy(0, 2, 1, 0), 0);
        check.due("of three, one", x.viewersBy(0, 2, 1, 3), 1);
        check.due("its kind", x.one(0, 2), 4);
        check.due("its more", x.one(0, 3), 7);
        check.due("its rich", x.one(0, 0), 999);
        check.due("its quiet", x.one(0, 1), 99);
        check.due("to the end", x.viewersBy(0, 2, 7, 1), 1);
        check.due("past the end, nobody ahead", x.viewersBy(0, 2, 8, 1), -12);
        check.due("past the end", x.viewersBy(0, 2, 7, 2), -12);
        check.due("what stood ahead came", x.count(0), 3);
        check.due("past the end by one", x.viewersBy(0, 2, 0, 5), -12);
        check.due("none that can be came", x.count(0), 3);
        for (int from : new int[] {-1, -2, 9, MIN, MAX, MAX - 1}) check.due("from", x.viewersBy(0, 2, from, 1), -12);
        for (int s : new int[] {-1, 4, MIN, MAX}) check.due("sheet", x.viewersBy(s, 2, -1, 1), BAD);
        for (int sort : new int[] {-1, 3, MIN, MAX}) check.due("sort", x.viewersBy(0, sort, -1, 1), BAD);
        for (int n : new int[] {-1, 9, MIN, MAX}) check.due("n", x.viewersBy(0, 2, -1, n), BAD);
        check.due("n, missing", x.viewersBy(1, 2, 0, 9), BAD);
        check.due("missing, of another sort", x.viewersBy(1, 0, -1, 1), -11);
        for (int sort = 0; sort < 2; sort++) {
            check.due("of another sort", x.viewersBy(0, sort, -1, 1), -13);
            check.due("of another sort, none", x.viewersBy(0, sort, 0, 0), -13);
            Check.sheet(x, 1, sort, 23, 101, 24, 32768, 25, 128);
            check.due("bytes, shorts", x.viewersBy(1, sort, 0, 3), 2);
        }
        int[] riches = {1, 0, 1, 1};
        for (int v = 3; v < 7; v++) check.due("rich of " + v, x.one(v, 0), riches[v - 3]);
        Check.sheet(x, 2, 2, 1, 1, 2, 2, 3, 3, 4, 4, 5, 5, 6, 6, 7, 7, 8, 8);
        check.due("one more has room", x.viewersBy(2, 2, 0, 8), 1);
        check.due("eight", x.count(0), 8);
        check.due("none has room", x.viewersBy(2, 2, 0, 8), 0);
        check.due("none has room, outside", x.viewersBy(2, 2, 2, 8), -12);
        FlatToLet y = new FlatToLet();
        Check.sheet(y, 2, 2, 1, 1, 2, 2, 3, 3, 4, 4, 5, 5, 6, 6, 7, 7, 8, 8);
        check.due("all eight", y.viewersBy(2, 2, 0, 8), 8);
        for (int v = 0; v < 8; v++) check.due("in order", y.one(v, 3), v + 1);
    }

    private static void taken() {
        FlatToLet x = new FlatToLet();
        check.due("no viewer", x.taken(0, 0), -11);
        check.due("no viewer's", x.taken(8, 6), -11);
        for (int kind = 0; kind < 6; kind++) x.viewer(10 * kind, 10 + kind);
        // by kind: what it is
        int[] is = {0b000001, 0b000011, 0b000101, 0b001011, 0b010101, 0b100001};
        for (int v = 0; v < 6; v++) {
            for (int kind = 0; kind < 6; kind++) {
                check.due("taken(" + v + ", " + kind + ")", x.taken(v, kind), (is[v] >> kind & 1) == 1 ? v : -13);
                check.due("taken(" + (v + 8) + ", " + kind + ")", x.taken(v + 8, kind), -13);
            }
            check.due("taken(" + v + ", 6)", x.taken(v, 6), -13);
            check.due("taken(" + (v + 8) + ", 6)", x.taken(v + 8, 6), 10 + v);
        }
        x.put(2, 1, 77);
        check.due("how quiet", x.taken(10, 6), 77);
        for (int kind : new int[] {-1, 7, MIN, MAX}) check.due("kind", x.taken(-1, kind), BAD);
        for (int i : new int[] {-1, 16, MIN, MAX}) check.due("place", x.taken(i, 0), -12);
        for (int i : new int[] {6, 7, 14, 15}) {
            for (int kind = 0; kind < 7; kind++) check.due("nobody there", x.taken(i, kind), -11);
        }
        x.image();
        x.viewer(0, 0);
        check.due("there", x.taken(6, 0), 6);
        x.back();
        check.due("none since", x.taken(6, 0), -11);
    }
}
