import java.math.BigInteger;

/** "Terms" 2, sentence by sentence: tours, minds, alone, orders by seeds, images, sheets. Refusals: RefusalTest. */
public final class Terms2Test {
    private static final int BAD = FlatToLet.BAD, STATE = FlatToLet.STATE;
    private static final int MIN = Integer.MIN_VALUE, MAX = Integer.MAX_VALUE;
    private static final int NO_TOUR = -1000002;
    private static final Check check = new Check();

    public static void main(String[] args) {
        tours();
        minds();
        alone();
        digits();
        orders();
        imageKeeps();
        imageKeepsNot();
        sheets();
        cells();
        check.end();
    }

    /** One viewer who likes each room by 1, 2, 4, .. 32, so that a mind tells which rooms are in it. */
    private static FlatToLet bits() {
        FlatToLet x = Check.under("likes light;keeps 1;offers 7;");
        Check.lights(x, 1, 2, 4, 8, 16, 32);
        x.viewer(0, 0);
        return x;
    }

    private static int mind(FlatToLet x, int... rooms) {
        Check.sheet(x, 0, 2, rooms);
        return x.tour(0, 0, 1, 0);
    }

    // ---- tours

    private static void tours() {
        check.says("Terms 2", "A TOUR: some ROOMS, none twice, in an order.");
        FlatToLet x = bits();
        check.due("no room", mind(x), 0);
        for (int a = 0; a < 6; a++) {
            check.due("one room", mind(x, a), 1 << a);
            check.due("as often as twice", mind(x, a, a), NO_TOUR);
            for (int b = 0; b < 6; b++) {
                if (a == b) continue;
                check.due("two rooms", mind(x, a, b), (1 << a) + (1 << b));
                check.due("the last", x.tour(0, 0, 1, 2), 1 << b);
            }
        }
        for (int a = 0; a < 6; a++) {
            FlatToLet y = bits();
            for (int b = 0; b < 6; b++) {
                if (a == b) continue;
                check.due("twice", mind(y, a, b, a), NO_TOUR);
                check.due("at once", mind(y, b, a, a), NO_TOUR);
            }
        }
        check.due("all six", mind(x, 5, 3, 1, 0, 2, 4), 63);
        check.due("seven", mind(x, 0, 1, 2, 3, 4, 5, 5), NO_TOUR);
        check.due("first and last alike", mind(x, 5, 1, 2, 3, 4, 5), NO_TOUR);
        check.due("forty", mind(x, new int[40]), NO_TOUR);
        for (int no : new int[] {-1, 6, 7, 32, 37, 64, -32, MIN, MAX}) {
            check.due("no room " + no, mind(x, no), NO_TOUR);
            check.due("no room behind one", mind(x, 0, no), NO_TOUR);
            check.due("no room ahead of one", mind(x, no, 0), NO_TOUR);
        }
    }

    private static void minds() {
        check.says("Terms 2", "MIND of a VIEWER by a TOUR, so many being there: of each ROOM of it how one LIKES it times how much one KEEPS of it, together.");
        FlatToLet x = Check.under("likes light-damp-crowd;keeps room+crowd;offers 7;");
        Check.lights(x, 11, 22, 33, 44, 55, 66);
        x.room(5, 1, 99);
        x.viewer(0, 0);
        Check.sheet(x, 0, 2, 1, 5, 2);
        check.due("crowd 1", x.tour(0, 0, 1, 0), 21 * 2 - 34 * 6 + 32 * 3);
        check.due("crowd 3", x.tour(0, 0, 3, 0), 19 * 4 - 36 * 8 + 30 * 5);
        check.due("crowd 8", x.tour(0, 0, 8, 0), 14 * 9 - 41 * 9 + 25 * 9);
        check.says("Terms 2", "OFFER: what one OFFERS by that.");
        FlatToLet y = Check.under("likes 2-crowd;keeps 1;offers crowd+40;");
        y.viewer(0, 0);
        Check.sheet(y, 0, 2, 1);
        int[] offers = {41, 0, 0, 0, 0, 0, 0, 0};
        for (int crowd = 1; crowd <= 8; crowd++) check.due("crowd " + crowd, y.tour(0, 0, crowd, 1), offers[crowd - 1]);
    }

    private static void alone() {
        check.says("Terms 2", "ALONE: CROWD 1.");
        FlatToLet x = Check.under("likes crowd*10-room;keeps 3-crowd;offers rich+crowd*3-(crowd-1)*900;");
        x.viewer(0, 40050);
        x.viewer(0, 30060);
        Check.sheet(x, 0, 2, 0, 1);
        check.due("without", x.without(0, 0, 1), 38);
        check.due("tenant", x.tenant(0, 0, 403), 0);
        check.due("waits", x.waits(0, 2, 0, 1), 2);
        check.due("film", x.film(0, 1, 0), 403);
        Check.sheet(x, 1, 2, 403, 403);
        check.due("judge", x.judge(0, 1, 0), -1);
        check.due("kinds", x.kinds(0, 1, 0, 0), 0b000111);
        check.due("more", x.kinds(0, 1, 0, 1), 1023);
        check.due("riches", x.riches(0, 1, 0, 1), 400);
        check.due("rooms", x.rooms(0, 1, 0, 0), 100);
        check.due("laws", x.laws(0, 1, 0), 2);
        check.due("drawn, mind", x.drawn(5, 0, 1), 2 * (60 - 15));
        check.due("drawn, offer", x.drawn(5, 0, 2), 403);
        check.due("odds", x.odds(5, 3, 403, 0), 1);
        check.due("odds", x.odds(5, 3, 404, 0), 0);
        FlatToLet y = Check.under("likes 20*crowd-damp;keeps 3-crowd;offers rich;");
        y.viewer(30, 0);
        y.room(0, 1, 19);
        Check.sheet(y, 0, 2, 0);
        check.due("paint", y.paint(0, 0, 0), 4 * 20 - 4);
    }

    private static void digits() {
        check.says("Terms 2", "Digits of a TOUR: 1 more than each ROOM, the first the highest.");
        FlatToLet x = bits();
        check.due("the first of like ones", x.best(0, 1, 0), 123456);
        x = Check.under("likes room;keeps 1;offers 1;");
        x.viewer(10, 0);
        check.due("room 5 twice", x.best(0, 1, 0), 612345);
        x = Check.under("likes room;keeps 1;offers 1;");
        x.viewer(29, 0);
        check.due("room 5 nine times more", x.best(0, 1, 0), 123456);
        x = Check.under("likes 0-room;keeps 1;offers 1;");
        x.viewer(29, 0);
        check.due("room 0 the last", x.best(0, 1, 0), 234561);
        // by lots: room n is at a place of its own, as the tour that a sheet tells by these digits shows
        FlatToLet y = bits();
        y.viewer(10, 0);
        y.viewer(29, 0);
        for (int seed : new int[] {0, 1, 2, 77, 12345, 99999}) {
            int digits = y.drawn(seed, 0, 0);
            y.sheet(0, 2, 6);
            for (int i = 5, rest = digits; i >= 0; i--, rest /= 10) y.cell(0, i, rest % 10 - 1);
            for (int v = 0; v < 3; v++) {
                check.due("mind by seed " + seed, y.drawn(seed, v, 1), y.tour(0, v, 1, 0));
                check.due("offer by seed " + seed, y.drawn(seed, v, 2), y.tour(0, v, 1, 1));
            }
            check.due("the first", y.tour(0, 1, 1, 0), 63 - 2 * 0 + (1 << digits / 100000 - 1));
            check.due("the last", y.tour(0, 2, 1, 0), 63 + 9 * (1 << digits % 10 - 1));
        }
    }

    // ---- orders by a seed

    /** Digits of orders by a seed, told once more. */
    private static int order(int seed) {
        BigInteger lot = BigInteger.valueOf(seed + 1);
        int[] rooms = {0, 1, 2, 3, 4, 5};
        for (int k = 5; k >= 1; k--) {
            lot = lot.multiply(BigInteger.valueOf(48271)).mod(BigInteger.valueOf(2147483647));
            int other = lot.mod(BigInteger.valueOf(k + 1)).intValue();
            int room = rooms[k];
            rooms[k] = rooms[other];
            rooms[other] = room;
        }
        int digits = 0;
        for (int room : rooms) digits = 10 * digits + room + 1;
        return digits;
    }

    private static void orders() {
        check.says("Terms 2", "ORDERS by a SEED (0 .. 99999)");
        FlatToLet x = bits();
        for (int seed : new int[] {0, 1, 2, 3, 99997, 99998, 99999}) {
            check.due("drawn(" + seed + ", 0, 0)", x.drawn(seed, 0, 0), order(seed));
        }
        for (int seed : new int[] {-1, 100000, MIN, MAX}) {
            for (int what = 0; what < 3; what++) check.due("drawn by " + seed, x.drawn(seed, 0, what), -1000007);
            for (int part = 0; part < 2; part++) check.due("odds by " + seed, x.odds(seed, 1, 0, part), FlatToLet.NO);
        }
        check.says("Terms 2", "all six ROOMS, at first by numbers; for k 5, 4, .. 1 a LOT: those at places k and LOT modulo (k and 1) change places.");
        // The lots of 0: 48271 modulo 6 is 1 (163452), 182605794 modulo 5 is 4, 1291394886 modulo 4 is 2 (164352),
        // 1914720637 modulo 3 is 1 (146352), 2078669041 modulo 2 is 1.
        check.due("seed 0", x.drawn(0, 0, 0), 146352);
        for (int block = 0; block < 250; block++) {
            FlatToLet y = bits();
            for (int k = 0; k < 400; k++) {
                int seed = block * 400 + k;
                if (y.drawn(seed, 0, 0) != order(seed)) check.due("drawn(" + seed + ", 0, 0)", y.drawn(seed, 0, 0), order(seed));
            }
        }
        check.says("Terms 2", "LOTS: the first is (SEED and 1) times 48271 modulo 2147483647, each further one the last times 48271 modulo 2147483647.");
        boolean[] seen = new boolean[654322];
        int orders = 0;
        FlatToLet z = bits();
        for (int seed = 0; seed < 400; seed++) {
            int digits = z.drawn(seed, 0, 0);
            check.due("drawn(" + seed + ", 0, 0)", digits, order(seed));
            if (!seen[digits]) orders++;
            seen[digits] = true;
        }
        check.that("many orders", orders > 200);
    }

    // ---- images

    private static FlatToLet full() {
        FlatToLet x = new FlatToLet();
        for (int r = 0; r < 6; r++) {
            x.room(r, 0, 10 + r);
            x.room(r, 1, 20 + r);
        }
        for (int v = 0; v < 8; v++) x.viewer(11 * (v % 5) + 3, 100 * (500 + v) + 60 + v);
        x.hours(4);
        Check.law(x, "likes 1;keeps 1;offers 1;");
        Check.read(x, "likes 2;keeps 2;offers 2;");
        return x;
    }

    private static void imageKeeps() {
        check.says("Terms 2", "AN IMAGE keeps LIGHT, DAMP of all ROOMS, RICH, QUIET of all VIEWERS, how many there are, THE HOUR, THE LAW.");
        FlatToLet x = full();
        check.due("kept", x.image(), 8);
        for (int r = 0; r < 6; r++) {
            x.room(r, 0, 50 + r);
            x.room(r, 1, 60 + r);
        }
        for (int v = 0; v < 8; v++) {
            x.put(v, 0, 900 + v);
            x.put(v, 1, 80 + v);
        }
        x.hours(9);
        x.force(2);
        check.due("changed", x.told(5, 1), 65);
        check.due("back", x.back(), 8);
        for (int r = 0; r < 6; r++) {
            check.due("light of " + r, x.told(r, 0), 10 + r);
            check.due("damp of " + r, x.told(r, 1), 20 + r);
        }
        for (int v = 0; v < 8; v++) {
            check.due("rich of " + v, x.one(v, 0), 500 + v);
            check.due("quiet of " + v, x.one(v, 1), 60 + v);
        }
        check.due("how many", x.count(0), 8);
        check.due("the hour", x.count(1), 4);
        check.due("the law", x.count(3), 1);
        // One change at a time, so that each is seen to be undone by itself.
        FlatToLet y = full();
        y.image();
        y.hours(0);
        check.due("back", y.back(), 8);
        check.due("the hour", y.count(1), 4);
        y.force(0);
        y.back();
        check.due("the law", y.count(3), 1);
        for (int r = 0; r < 6; r++) {
            y.room(r, 0, 99);
            y.back();
            check.due("light", y.told(r, 0), 10 + r);
            y.room(r, 1, 99);
            y.back();
            check.due("damp", y.told(r, 1), 20 + r);
        }
        for (int v = 0; v < 8; v++) {
            y.put(v, 0, 1);
            y.back();
            check.due("rich", y.one(v, 0), 500 + v);
            y.put(v, 1, 1);
            y.back();
            check.due("quiet", y.one(v, 1), 60 + v);
        }
        // An image is a copy: what comes behind it does not come into it, nor does what comes behind back().
        y.room(0, 0, 77);
        y.put(0, 0, 77);
        check.due("another image", y.image(), 8);
        y.room(0, 0, 78);
        y.put(0, 0, 78);
        y.back();
        y.room(0, 0, 79);
        y.put(0, 0, 79);
        y.back();
        check.due("light of the later image", y.told(0, 0), 77);
        check.due("rich of the later image", y.one(0, 0), 77);
    }

    private static void imageKeepsNot() {
        FlatToLet x = new FlatToLet();
        x.viewer(11, 100);
        check.due("image", x.image(), 1);
        check.due("a text", Check.read(x, "likes 3;keeps 3;offers 3;"), 1);
        Check.feed(x, "likes 4;keeps");
        Check.sheet(x, 0, 1, 2, 1);
        check.due("one comes", x.viewer(22, 200), 1);
        check.due("back", x.back(), 1);
        check.due("texts stay", x.count(2), 2);
        check.due("bytes stay", x.count(4), 13);
        check.due("sheets stay", x.tour(0, 0, 1, 0), 0);
        check.due("the text is one", x.force(1), 0);
        check.due("as it was read", x.asks(0, 0, 0, 1), 3);
        Check.feed(x, " 4;offers 4;");
        check.due("the tape is read on", x.text(), 2);
        check.due("no image of none", new FlatToLet().back(), STATE);
    }

    // ---- sheets

    private static void sheets() {
        check.says("Terms 2", "SHEETS 0 .. 3 are rows of numbers, or missing (as all are at first): of sort 0 bytes, 1 shorts, 2 ints, 40 at most.");
        FlatToLet x = new FlatToLet();
        x.viewer(0, 0);
        for (int s = 0; s < 4; s++) {
            check.due("cell", x.cell(s, 0, 1), -11);
            check.due("tour", x.tour(s, 0, 1, 0), -1000011);
            check.due("viewersBy", x.viewersBy(s, 0, 0, 0), -11);
            check.due("copy", x.copy(s, 0, s, 0, 0), -11);
        }
        for (int s : new int[] {-1, 4, MIN, MAX}) {
            check.due("sheet", x.sheet(s, 2, 1), BAD);
            check.due("cell", x.cell(s, 0, 1), BAD);
            check.due("tour", x.tour(s, 0, 1, 0), NO_TOUR);
        }
        for (int s = 0; s < 4; s++) {
            for (int sort = 0; sort < 3; sort++) {
                for (int n : new int[] {0, 1, 39, 40}) {
                    check.due("sheet", x.sheet(s, sort, n), 1);
                    check.due("so many", x.copy(s, 0, s, 0, n), n);
                    check.due("no more", x.copy(s, 0, s, 0, n + 1), -12);
                }
                for (int n : new int[] {41, 42, MAX}) check.due("too many", x.sheet(s, sort, n), BAD);
                for (int n : new int[] {-1, MIN}) check.due("too few", x.sheet(s, sort, n), -14);
                check.due("as many as they were", x.copy(s, 0, s, 0, 40), 40);
                for (int other = 0; other < 3; other++) {
                    check.due("of a sort", x.viewersBy(s, other, 0, 0), other == sort ? 0 : -13);
                }
            }
        }
    }

    private static void cells() {
        check.says("Terms 2", "A SHEET tells a TOUR, if it tells ROOMS, none twice.");
        FlatToLet x = bits();
        for (int sort = 0; sort < 3; sort++) {
            check.due("none of a sort", tellsBy(x, sort), 0);
            check.due("one", tellsBy(x, sort, 5), 32);
            check.due("six", tellsBy(x, sort, 5, 4, 3, 2, 1, 0), 63);
            check.due("twice", tellsBy(x, sort, 5, 4, 5), NO_TOUR);
            check.due("6", tellsBy(x, sort, 6), NO_TOUR);
            check.due("-1", tellsBy(x, sort, -1), NO_TOUR);
            check.due("127", tellsBy(x, sort, 127), NO_TOUR);
            check.due("256 and 1", tellsBy(x, sort, 257), sort == 0 ? 2 : NO_TOUR);
            check.due("65536 and 1", tellsBy(x, sort, 65537), sort < 2 ? 2 : NO_TOUR);
            check.due("256 and 1, 1", tellsBy(x, sort, 257, 1), NO_TOUR);
        }
    }

    private static int tellsBy(FlatToLet x, int sort, int... rooms) {
        Check.sheet(x, 2, sort, rooms);
        return x.tour(2, 0, 1, 0);
    }
}
