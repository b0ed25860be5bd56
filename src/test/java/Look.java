import java.util.StringJoiner;

/**
 * All that can be seen of an object by its own calls (some 300 of them), so that two may be held against each other.
 * The object is of no more use then. Cells are seen two by two as viewers, so that they must be such as those may be.
 */
final class Look {
    private final FlatToLet x;
    private final StringJoiner seen = new StringJoiner(" ");

    private Look(FlatToLet x) {
        this.x = x;
    }

    static String at(FlatToLet x) {
        Look look = new Look(x);
        look.flat();
        int[] sizes = new int[4];
        int[] sorts = new int[4];
        for (int s = 0; s < 4; s++) {
            sizes[s] = look.size(s);
            sorts[s] = look.sort(s);
        }
        long back = look.note("back", x.back());
        look.flat();
        if (back < 0) x.image();
        for (int s = 0; s < 4; s++) look.cells(s, sorts[s], sizes[s]);
        look.tape();
        look.texts();
        return look.seen.toString();
    }

    private long note(String what, long answer) {
        seen.add(what + ":" + answer);
        return answer;
    }

    private void flat() {
        for (int what = 0; what < 5; what++) note("count", x.count(what));
        for (int r = 0; r < 6; r++) {
            note("light", x.told(r, 0));
            note("damp", x.told(r, 1));
        }
        for (int v = 0; v < x.count(0); v++) {
            for (int what = 0; what < 4; what++) note("one", x.one(v, what));
        }
    }

    /** By halves: the most that can be copied within the sheet. */
    private int size(int s) {
        int least = 0;
        int most = 40;
        while (least < most) {
            int n = (least + most + 1) / 2;
            if (x.copy(s, 0, s, 0, n) == n) least = n; else most = n - 1;
        }
        note("size of " + s, least);
        return least;
    }

    private int sort(int s) {
        for (int sort = 0; sort < 3; sort++) {
            if (x.viewersBy(s, sort, 0, 0) == 0) {
                note("sort of " + s, sort);
                return sort;
            }
        }
        note("no sort of " + s, x.viewersBy(s, 0, 0, 0));
        return -1;
    }

    private void cells(int s, int sort, int size) {
        int v = x.count(0);
        for (int i = 0; i < size; i += 2) {
            int from = Math.min(i, size - 2);
            if (note("two of " + s, x.viewersBy(s, sort, from, 1)) == 1) {
                for (int what = 0; what < 4; what++) note("one", x.one(v, what));
            }
            x.back();
        }
    }

    /** What is on the tape is read to its end, and what it likes, keeps, offers is seen as any text's. */
    private void tape() {
        note("fed", x.feed(1, ';', 0, 0, 0, 0));
        note("text", x.text());
    }

    private void texts() {
        if (x.count(0) == 0) x.viewer(0, 12345);
        for (int t = 0; t < x.count(2); t++) {
            note("force", x.force(t));
            for (int part = 0; part < 3; part++) note("asks", x.asks(part, 0, 2, 3));
        }
    }
}
