/** Promises 13 to 21, sentence by sentence: tours, and what is best; none there, like ones, bounds. */
public final class Promises13To21Test {
    private static final int BAD = FlatToLet.BAD;
    private static final int MIN = Integer.MIN_VALUE, MAX = Integer.MAX_VALUE;
    private static final int FAR = -1000000;
    private static final long NO = FlatToLet.NO;
    private static final Check check = new Check();

    public static void main(String[] args) {
        tour();
        shown();
        shownBits();
        best();
        bestRefused();
        when();
        together();
        without();
        paint();
        tenant();
        waits();
        waitsAll();
        waitsNone();
        check.end();
    }

    /** Viewers (of KIND 0) so rich, quiet 50; sheet 0 tells rooms 1, 2; all like each room by 1 and offer what they have. */
    private static FlatToLet offering(int... riches) {
        FlatToLet x = Check.under("likes 1;keeps 1;offers rich;");
        for (int rich : riches) x.viewer(0, 100 * rich + 50);
        Check.sheet(x, 0, 2, 1, 2);
        return x;
    }

    private static void tour() {
        check.says("Promise 13", "By a TOUR that a SHEET tells, CROWD being so (1 .. 8): MIND (what 0), OFFER (1), how one LIKES the last ROOM of it (2; none: 0).");
        FlatToLet x = Check.under("likes 20*room+crowd-50;keeps crowd;offers crowd*100;");
        x.viewer(0, 0);
        Check.sheet(x, 0, 2, 5, 0);
        Check.sheet(x, 1, 2);
        for (int crowd = 1; crowd <= 8; crowd++) {
            int five = 50 + crowd, none = crowd - 50;
            check.due("mind", x.tour(0, 0, crowd, 0), crowd * (five + none));
            check.due("offer", x.tour(0, 0, crowd, 1), 100 * crowd);
            check.due("the last", x.tour(0, 0, crowd, 2), none);
            check.due("no room: mind", x.tour(1, 0, crowd, 0), 0);
            check.due("no room: offer", x.tour(1, 0, crowd, 1), 0);
            check.due("no room: none", x.tour(1, 0, crowd, 2), 0);
        }
        x.viewer(20, 0);
        check.due("no room, a student in a crowd", x.tour(1, 1, 8, 1), 80);
        check.says("Promise 13", "-1000002: SHEET; -1000011: it is missing; -1000002: it tells no TOUR; -1000007: no such VIEWER, crowd, what.");
        for (int crowd : new int[] {-1, 0, 9, MIN, MAX}) check.due("crowd " + crowd, x.tour(0, 0, crowd, 0), FAR - 7);
        for (int v : new int[] {-1, 2, 8, MIN, MAX}) check.due("viewer " + v, x.tour(0, v, 1, 0), FAR - 7);
        for (int what : new int[] {-1, 3, MIN, MAX}) check.due("what " + what, x.tour(0, 0, 1, what), FAR - 7);
        for (int s : new int[] {-1, 4, MIN, MAX}) check.due("sheet " + s, x.tour(s, 0, 1, 0), FAR - 2);
        check.due("missing", x.tour(3, 0, 1, 0), FAR - 11);
        Check.sheet(x, 3, 2, 1, 1);
        check.due("no tour", x.tour(3, 0, 1, 0), FAR - 2);
        x.sheet(3, -1, 0);
        check.due("missing again", x.tour(3, 0, 1, 0), FAR - 11);
    }

    private static void shown(FlatToLet x, int some, int who, int most, int next) {
        check.due("shown(0, " + some + ", 0)", x.shown(0, some, 0), who);
        check.due("shown(0, " + some + ", 1)", x.shown(0, some, 1), most);
        check.due("shown(0, " + some + ", 2)", x.shown(0, some, 2), next);
    }

    private static void shown() {
        check.says("Promise 14", "who OFFERS most, of like ones the first (what 0; -1: nobody comes), how much (1; 0), the most that any other of them does (2; 0).");
        FlatToLet x = offering(100, 300, 300, 200);
        shown(x, 0b0000, -1, 0, 0);
        shown(x, 0b0001, 0, 100, 0);
        shown(x, 0b0110, 1, 300, 300);
        shown(x, 0b0111, 1, 300, 300);
        shown(x, 0b1101, 2, 300, 200);
        shown(x, 0b1001, 3, 200, 100);
        shown(x, 0b1111, 1, 300, 300);
        shown(offering(300, 100, 300), 0b111, 0, 300, 300);
        shown(offering(100, 200, 300), 0b111, 2, 300, 200);
        shown(offering(0, 0), 0b11, 0, 0, 0);
        shown(offering(0, 0), 0b10, 1, 0, 0);
        shown(offering(), 0, -1, 0, 0);
        FlatToLet y = offering(5, 6, 7);
        Check.sheet(y, 0, 2);
        shown(y, 0b110, 1, 0, 0);
    }

    private static void shownBits() {
        check.says("Promise 14", "By a TOUR some VIEWERS (bits) together, CROWD being how many they are");
        FlatToLet x = Check.under("likes 1;keeps 1;offers crowd*100+rich;");
        Check.sheet(x, 0, 2, 1);
        for (int n = 0; n < 8; n++) {
            for (int some : new int[] {-1, 1 << n, 2 << n, 256, MIN, MAX}) check.due("some " + some + " of " + n, x.shown(0, some, 0), -7);
            x.viewer(0, 100 * n);
            check.due("the last alone", x.shown(0, 1 << n, 1), 100 + n);
            check.due("all", x.shown(0, (2 << n) - 1, 1), 100 * (n + 1) + n);
        }
        check.due("eight", x.shown(0, 255, 0), 7);
        check.due("eight, the next", x.shown(0, 255, 2), 806);
        check.due("four of eight", x.shown(0, 0b10101010, 1), 407);
        check.says("Promise 14", "BAD: SHEET; -11; BAD: no TOUR; -7: some, what.");
        for (int what : new int[] {-1, 3, MIN, MAX}) check.due("what " + what, x.shown(0, 1, what), -7);
        for (int s : new int[] {-1, 4, MIN, MAX}) check.due("sheet " + s, x.shown(s, 1, 0), BAD);
        check.due("missing", x.shown(1, 1, 0), -11);
        Check.sheet(x, 1, 2, 6);
        check.due("no tour", x.shown(1, 1, 0), BAD);
    }

    private static void best() {
        check.says("Promise 15", "MIND of a VIEWER (-1: of all VIEWERS, together) is most, CROWD being so (1 .. 8): digits (what 0), how much (1); of like ones the first by digits.");
        FlatToLet x = Check.under("likes light-damp;keeps crowd;offers 0;");
        Check.lights(x, 1, 2, 9, 3, 9, 4);
        x.room(0, 1, 50);
        x.room(5, 1, 60);
        for (int crowd = 1; crowd <= 8; crowd++) {
            check.due("nobody at all", x.best(-1, crowd, 0), 123456);
            check.due("nobody at all, how much", x.best(-1, crowd, 1), 0);
        }
        check.due("no viewer 0", x.best(0, 1, 0), FAR - 5);
        x.viewer(0, 0);
        int sum = -49 + 2 + 9 + 3 + 9 - 56;
        for (int crowd = 1; crowd <= 8; crowd++) {
            check.due("all alike", x.best(0, crowd, 0), 123456);
            check.due("all alike, below 0", x.best(0, crowd, 1), crowd * sum);
        }
        x.viewer(10, 0);
        check.due("of two rooms of 9 the first by digits, then all others", x.best(1, 1, 0), 312456);
        check.due("how much", x.best(1, 1, 1), sum + 9);
        x.viewer(22, 0);
        check.due("the last of 9, digits ahead as they can", x.best(2, 1, 0), 123465);
        check.due("how much", x.best(2, 1, 1), sum + 18);
        check.due("all: 3 first, 5 last", x.best(-1, 1, 0), 312465);
        check.due("all, how much", x.best(-1, 1, 1), 3 * sum + 9 + 18);
        check.due("all, crowd 8", x.best(-1, 8, 1), 8 * 3 * sum + 72 + 18);
        FlatToLet y = Check.under("likes 0-light;keeps 1;offers 0;");
        Check.lights(y, 3, 1, 3, 3, 3, 1);
        y.viewer(10, 0);
        check.due("all below 0: the least is first", y.best(0, 1, 0), 213456);
        check.due("all below 0", y.best(0, 1, 1), -15);
        y.viewer(29, 0);
        check.due("a student's last", y.best(1, 1, 0), 123456);
        y.room(5, 0, 2);
        check.due("a student's last, the other", y.best(1, 1, 0), 134562);
        y.room(5, 0, 1);
        check.due("a student's last, how much", y.best(1, 1, 1), -14 - 9);
        for (int v = 2; v < 8; v++) y.viewer(0, 0);
        check.due("all eight", y.best(-1, 1, 0), 213456);
        check.due("all eight, how much", y.best(-1, 1, 1), 8 * -14 - 1 - 9);
        check.due("the last of eight", y.best(7, 1, 1), -14);
    }

    private static void bestRefused() {
        check.says("Promise 15", "-1000005: no such VIEWER; -1000007: crowd, what.");
        FlatToLet x = offering(1, 2, 3);
        for (int v : new int[] {-2, 3, 8, MIN, MAX}) {
            check.due("viewer " + v, x.best(v, 1, 0), FAR - 5);
            check.due("ahead of crowd", x.best(v, 0, 0), FAR - 5);
            check.due("ahead of what", x.best(v, 1, 2), FAR - 5);
        }
        for (int v = -1; v < 3; v++) {
            for (int crowd : new int[] {-1, 0, 9, MIN, MAX}) check.due("crowd " + crowd, x.best(v, crowd, 0), FAR - 7);
            for (int what : new int[] {-1, 2, MIN, MAX}) check.due("what " + what, x.best(v, 8, what), FAR - 7);
        }
    }

    private static void when(FlatToLet x, int some, int hour, int most) {
        check.due("when(0, " + some + ", 0)", x.when(0, some, 0), hour);
        check.due("when(0, " + some + ", 1)", x.when(0, some, 1), most);
    }

    private static void when() {
        check.says("Promise 16", "THE HOUR, were it that, at which by a TOUR some VIEWERS together have the most OFFERED by one of them, of like ones the first (what 0), how much (1; nobody: 0).");
        when(offering(), 0, 0, 0);
        when(offering(5), 0, 0, 0);
        when(offering(5), 1, 0, 5);
        when(offering(0, 0), 3, 0, 0);
        for (int h = 0; h < 12; h++) {
            FlatToLet x = offering(100, 200);
            Check.law(x, "likes 1;keeps 1;offers rich+(hour=" + h + ")*50+(hour=11)*50;");
            when(x, 1, h, h == 11 ? 200 : 150);
            when(x, 3, h, h == 11 ? 300 : 250);
            check.due("the hour is as it was", x.count(1), 6);
            Check.law(x, "likes (hour=" + h + ");keeps 1;offers 9;");
            when(x, 2, h, 9);
            Check.law(x, "likes 1;keeps (hour=" + h + ");offers 9;");
            when(x, 2, h, 9);
        }
        FlatToLet y = offering(100, 200);
        Check.law(y, "likes 1;keeps 1;offers crowd*100+hour;");
        when(y, 1, 11, 111);
        when(y, 3, 11, 211);
        Check.law(y, "likes 1;keeps 1;offers crowd*100-hour;");
        when(y, 2, 0, 100);
        when(y, 3, 0, 200);
        y.hours(7);
        when(y, 3, 0, 200);
        check.says("Promise 16", "BAD, -11, BAD, -7 likewise.");
        for (int s : new int[] {-1, 4, MIN, MAX}) check.due("sheet " + s, y.when(s, 1, 0), BAD);
        check.due("missing", y.when(1, 1, 0), -11);
        Check.sheet(y, 1, 2, -1);
        check.due("no tour", y.when(1, 1, 0), BAD);
        for (int some : new int[] {-1, 4, 256, MIN, MAX}) check.due("some " + some, y.when(0, some, 0), -7);
        for (int what : new int[] {-1, 2, MIN, MAX}) check.due("what " + what, y.when(0, 1, what), -7);
    }

    private static void together(FlatToLet x, int who, int most) {
        check.due("together(0, 0)", x.together(0, 0), who);
        check.due("together(0, 1)", x.together(0, 1), most);
    }

    private static void together() {
        check.says("Promise 17", "of like ones the fewest, then the least as bits (what 0; 0: nobody OFFERS any), how much (1; 0).");
        together(offering(), 0, 0);
        together(offering(0, 0, 0), 0, 0);
        together(offering(0, 0, 1), 0b100, 1);
        together(offering(5, 9, 9), 0b010, 9);
        together(offering(9, 5, 9), 0b001, 9);
        FlatToLet x = offering(100, 100, 100, 100);
        for (int crowd = 1; crowd <= 4; crowd++) {
            Check.law(x, "likes 1;keeps 1;offers rich+(crowd=" + crowd + ")*9;");
            together(x, (1 << crowd) - 1, 109);
        }
        FlatToLet w = offering(100, 100, 100, 100);
        Check.law(w, "likes 1;keeps 1;offers rich+(crowd=2 or crowd=4)*9+(crowd=3)*8;");
        together(w, 0b0011, 109);
        FlatToLet y = offering(100, 100, 100, 101);
        Check.law(y, "likes 1;keeps 1;offers rich+(crowd=2)*9;");
        together(y, 0b1001, 110);
        Check.law(y, "likes 1;keeps 1;offers rich+(crowd=3)*9;");
        together(y, 0b1011, 110);
        Check.law(y, "likes 1-(crowd<3);keeps 1;offers rich;");
        together(y, 0b1011, 101);
        FlatToLet z = offering(0, 0, 0, 0, 0, 0, 0, 0);
        Check.law(z, "likes 1;keeps 1;offers (crowd=8)*7;");
        together(z, 255, 7);
        Check.law(z, "likes 1;keeps 1;offers (crowd=7)*7;");
        together(z, 127, 7);
        Check.law(z, "likes 1;keeps 1;offers (crowd=1)*7;");
        together(z, 1, 7);
        Check.sheet(z, 0, 2);
        together(z, 0, 0);
        check.says("Promise 17", "BAD, -11, BAD likewise; -7: what.");
        for (int s : new int[] {-1, 4, MIN, MAX}) check.due("sheet " + s, z.together(s, 0), BAD);
        check.due("missing", z.together(1, 0), -11);
        Check.sheet(z, 1, 2, 2, 2);
        check.due("no tour", z.together(1, 0), BAD);
        for (int what : new int[] {-1, 2, MIN, MAX}) check.due("what " + what, z.together(0, what), -7);
    }

    private static void without(FlatToLet x, int s, int room, int most) {
        check.due("without(" + s + ", 0, 0)", x.without(s, 0, 0), room);
        check.due("without(" + s + ", 0, 1)", x.without(s, 0, 1), most);
    }

    private static void without() {
        check.says("Promise 18", "is most, if more than so, of like ones the first of the TOUR (what 0; -1: none), how much (1; as so).");
        FlatToLet x = Check.under("likes light-damp;keeps 1;offers 0;");
        Check.lights(x, 5, 0, 0, 0, 0, 9);
        Check.damps(x, 0, 4, 7, 7, 0, 0);
        x.viewer(0, 0);
        Check.sheet(x, 0, 2);
        without(x, 0, -1, 0);
        Check.sheet(x, 0, 2, 0);
        without(x, 0, -1, 5);
        Check.sheet(x, 0, 2, 1);
        without(x, 0, 1, 0);
        Check.sheet(x, 0, 2, 4);
        without(x, 0, -1, 0);
        Check.sheet(x, 0, 2, 0, 4);
        without(x, 0, -1, 5);
        Check.sheet(x, 0, 2, 0, 4, 1);
        without(x, 0, 1, 5);
        Check.sheet(x, 0, 2, 3, 2);
        without(x, 0, 3, -7);
        Check.sheet(x, 0, 2, 2, 3);
        without(x, 0, 2, -7);
        Check.sheet(x, 0, 2, 5, 4, 3, 2, 1, 0);
        without(x, 0, 3, 3);
        Check.sheet(x, 0, 2, 0, 1, 2, 3, 4, 5);
        without(x, 0, 2, 3);
        check.says("Promise 18", "(all others in that order)");
        FlatToLet y = Check.under("likes light;keeps 1;offers 0;");
        Check.lights(y, 1, 10, 2, 20, 3, 30);
        y.viewer(10, 0);
        y.viewer(25, 0);
        Check.sheet(y, 0, 2, 0, 1, 2);
        check.due("couple: the next is first", y.without(0, 0, 0), 0);
        check.due("couple: twice of 10, 2", y.without(0, 0, 1), 22);
        Check.sheet(y, 0, 2, 2, 3, 4);
        check.due("student: the one ahead is last", y.without(0, 1, 0), 4);
        check.due("student: 2, six times 20", y.without(0, 1, 1), 122);
        Check.sheet(y, 0, 2, 1, 0, 2, 5);
        check.due("couple: none", y.without(0, 0, 0), -1);
        check.due("couple: as so", y.without(0, 0, 1), 53);
        check.says("Promise 18", "-1000002, -1000011, -1000002 likewise; -1000007: no such VIEWER, what.");
        for (int s : new int[] {-1, 4, MIN, MAX}) check.due("sheet " + s, y.without(s, 0, 0), FAR - 2);
        check.due("missing", y.without(1, 0, 0), FAR - 11);
        Check.sheet(y, 1, 2, 0, 1, 0);
        check.due("no tour", y.without(1, 0, 0), FAR - 2);
        for (int v : new int[] {-1, 2, 8, MIN, MAX}) check.due("viewer " + v, y.without(0, v, 0), FAR - 7);
        for (int what : new int[] {-1, 2, MIN, MAX}) check.due("what " + what, y.without(0, 0, what), FAR - 7);
    }

    private static void paint() {
        check.says("Promise 19", "By how much a VIEWER's OFFER, ALONE, by a TOUR would be more, were a ROOM DAMP 0 (may be below 0).");
        FlatToLet x = Check.under("likes light-damp;keeps 1;offers rich;");
        Check.damps(x, 9, 8, 7, 6, 5, 0);
        x.room(0, 0, 20);
        x.viewer(0, 10000);
        x.viewer(30, 10000);
        Check.sheet(x, 0, 2, 0, 1);
        check.due("offered already", x.paint(0, 0, 0), 0);
        check.due("of a doctor: 9 twice", x.paint(0, 1, 0), 18);
        check.due("of a doctor: 8 twice", x.paint(0, 1, 1), 16);
        for (int r = 2; r < 6; r++) check.due("not of the tour", x.paint(0, 1, r), 0);
        Check.sheet(x, 0, 2, 5);
        check.due("no damp at all", x.paint(0, 1, 5), 0);
        Check.sheet(x, 0, 2, 1);
        check.due("0 is not above 0", x.paint(0, 0, 1), 0);
        x.room(1, 0, 1);
        check.due("from nothing to all", x.paint(0, 0, 1), 100);
        check.due("from nothing to all, of a doctor", x.paint(0, 1, 1), 102);
        Check.sheet(x, 0, 2);
        check.due("no room", x.paint(0, 1, 1), 0);
        Check.law(x, "likes damp;keeps 1;offers rich;");
        Check.sheet(x, 0, 2, 2);
        check.due("below 0", x.paint(0, 0, 2), -100);
        check.due("below 0, of a doctor", x.paint(0, 1, 2), -114);
        check.due("damp as it was", x.told(2, 1), 7);
        Check.law(x, "likes 9;keeps 9;offers 999-damp;");
        check.due("offers see no damp", x.paint(0, 0, 2), 0);
        check.says("Promise 19", "-1000002, -1000011, -1000002 likewise; -1000005: no such VIEWER, ROOM.");
        for (int s : new int[] {-1, 4, MIN, MAX}) check.due("sheet " + s, x.paint(s, 0, 0), FAR - 2);
        check.due("missing", x.paint(1, 0, 0), FAR - 11);
        Check.sheet(x, 1, 2, 0, 0);
        check.due("no tour", x.paint(1, 0, 0), FAR - 2);
        for (int v : new int[] {-1, 2, 8, MIN, MAX}) check.due("viewer " + v, x.paint(0, v, 0), FAR - 5);
        for (int r : new int[] {-1, 6, MIN, MAX}) check.due("room " + r, x.paint(0, 0, r), FAR - 5);
    }

    private static void tenant() {
        check.says("Promise 20", "Of VIEWERS who are QUIET quiet1 (0 .. 99) or more, and OFFER, each ALONE, by a TOUR least (0 .. 9999) or more: who OFFERS most, of like ones the most QUIET, then the first; -1: none.");
        check.due("nobody", offering().tenant(0, 0, 0), -1);
        FlatToLet x = offering(100, 200, 200, 200, 300);
        int[] quiets = {99, 40, 41, 41, 0};
        for (int v = 0; v < 5; v++) x.put(v, 1, quiets[v]);
        check.due("the most", x.tenant(0, 0, 0), 4);
        check.due("just so much", x.tenant(0, 0, 300), 4);
        check.due("too much", x.tenant(0, 0, 301), -1);
        check.due("quiet 1: the most quiet, then the first", x.tenant(0, 1, 0), 2);
        check.due("quiet 41", x.tenant(0, 41, 200), 2);
        check.due("quiet 42", x.tenant(0, 42, 0), 0);
        check.due("quiet 42, 100", x.tenant(0, 42, 100), 0);
        check.due("quiet 42, 101", x.tenant(0, 42, 101), -1);
        check.due("quiet 99", x.tenant(0, 99, 0), 0);
        check.due("9999", x.tenant(0, 0, 9999), -1);
        x.put(0, 1, 98);
        check.due("quiet 99, none", x.tenant(0, 99, 0), -1);
        x.put(1, 1, 41);
        check.due("the first of three", x.tenant(0, 1, 0), 1);
        x.put(3, 1, 42);
        check.due("the last of three", x.tenant(0, 1, 0), 3);
        Check.sheet(x, 0, 2);
        check.due("nothing offered: the most quiet", x.tenant(0, 0, 0), 0);
        check.due("nothing offered, 1 or more", x.tenant(0, 0, 1), -1);
        FlatToLet y = Check.under("likes 99;keeps 9;offers 999;");
        y.viewer(30, 0);
        Check.sheet(y, 0, 2, 1, 2, 3, 4, 5);
        check.due("a doctor's 999 and 6 times 891", y.tenant(0, 0, 999 + 6 * 891), 0);
        check.due("1 more", y.tenant(0, 0, 999 + 6 * 891 + 1), -1);
        check.says("Promise 20", "BAD, -11, BAD likewise; -7: quiet1, least.");
        for (int s : new int[] {-1, 4, MIN, MAX}) check.due("sheet " + s, x.tenant(s, 0, 0), BAD);
        check.due("missing", x.tenant(1, 0, 0), -11);
        Check.sheet(x, 1, 2, 7);
        check.due("no tour", x.tenant(1, 0, 0), BAD);
        for (int quiet : new int[] {-1, 100, MIN, MAX}) check.due("quiet " + quiet, x.tenant(0, quiet, 0), -7);
        for (int least : new int[] {-1, 10000, MIN, MAX}) check.due("least " + least, x.tenant(0, 0, least), -7);
    }

    private static void waits(FlatToLet x, int n, int skip, long above, long below) {
        check.due("waits(0, " + n + ", " + skip + ", 0)", x.waits(0, n, skip, 0), above);
        check.due("waits(0, " + n + ", " + skip + ", 1)", x.waits(0, n, skip, 1), below);
    }

    private static void waits() {
        check.says("Promise 21", "then the first is taken who OFFERS more than all ahead; if there is none, the last one.");
        waits(offering(7), 1, 0, 1, 1);
        waits(offering(0), 1, 0, 1, 1);
        waits(offering(1, 2), 2, 0, 1, 2);
        waits(offering(1, 2), 2, 1, 1, 2);
        waits(offering(2, 2), 2, 1, 1, 1);
        waits(offering(0, 0), 2, 1, 1, 1);
        // 1 2 3, one let go: 213, 231, 132 take the 3; 123 takes the 2, 312 and 321 the last.
        waits(offering(1, 2, 3), 3, 1, 1, 2);
        // two let go: whoever is last
        waits(offering(1, 2, 3), 3, 2, 1, 3);
        // 1 and two of 2: one let go, then 1 2 2 and 2 1 2 take a 2, 2 2 1 the 1
        waits(offering(1, 2, 2), 3, 1, 2, 3);
        waits(offering(0, 1, 1, 1), 4, 1, 3, 4);
        check.says("Promise 21", "By how many of all orders one is taken who OFFERS as much as any of them: part 0 above, 1 below the line, in lowest terms.");
        waits(offering(5, 5, 5, 5, 5, 5), 6, 3, 1, 1);
        waits(offering(1, 2, 3, 4, 5, 6), 6, 0, 1, 6);
        waits(offering(1, 2, 3, 4, 5, 6), 6, 1, 137, 360);
        // any of those who come, not of all viewers
        waits(offering(1, 2, 9), 2, 1, 1, 2);
        waits(offering(3, 9), 1, 0, 1, 1);
        FlatToLet x = Check.under("likes 1;keeps 1;offers rich*(crowd=1);");
        x.viewer(0, 500);
        x.viewer(0, 600);
        Check.sheet(x, 0, 2, 3);
        waits(x, 2, 0, 1, 2);
    }

    private static int orders, good;

    private static void waitsAll() {
        check.says("Promise 21", "skip (0 .. n less 1) of them are let go");
        int[][] all = {{1, 2, 3, 4, 5, 6}, {6, 5, 4, 3, 2, 1}, {3, 1, 4, 1, 5, 2}, {2, 2, 3, 3, 1, 1}, {0, 0, 0, 9, 9, 9},
            {7, 7, 7, 7, 7, 0}, {5, 8, 8, 2, 0, 8}};
        for (int[] offers : all) {
            FlatToLet x = offering(offers);
            for (int n = 1; n <= 6; n++) {
                for (int skip = 0; skip < n; skip++) {
                    orders = 0;
                    good = 0;
                    come(offers, n, skip, 0, 0, -1, -1);
                    int common = java.math.BigInteger.valueOf(good).gcd(java.math.BigInteger.valueOf(orders)).intValue();
                    waits(x, n, skip, good / common, orders / common);
                }
            }
        }
    }

    /** All ways in which those who are not yet seen may come; ahead is the most so far, taken what is offered, or -1. */
    private static void come(int[] offers, int n, int skip, int seen, int many, int ahead, int taken) {
        int most = 0;
        for (int v = 0; v < n; v++) most = Math.max(most, offers[v]);
        if (many == n) {
            orders++;
            if (taken == most) good++;
            return;
        }
        for (int v = 0; v < n; v++) {
            if ((seen >> v & 1) == 1) continue;
            boolean is = taken < 0 && many >= skip && (offers[v] > ahead || many == n - 1);
            come(offers, n, skip, seen | 1 << v, many + 1, Math.max(ahead, offers[v]), is ? offers[v] : taken);
        }
    }

    private static void waitsNone() {
        check.says("Promise 21", "NO: none such, no TOUR.");
        FlatToLet x = offering(1, 2, 3, 4, 5, 6, 7, 8);
        for (int part = 0; part < 2; part++) {
            for (int n : new int[] {-1, 0, 7, 8, 9, MIN, MAX}) check.due("n " + n, x.waits(0, n, 0, part), NO);
            for (int n = 1; n <= 6; n++) {
                for (int skip : new int[] {-1, n, n + 1, MIN, MAX}) check.due("skip " + skip, x.waits(0, n, skip, part), NO);
            }
            for (int s : new int[] {-1, 4, MIN, MAX}) check.due("sheet " + s, x.waits(s, 1, 0, part), NO);
            check.due("missing", x.waits(1, 1, 0, part), NO);
        }
        for (int part : new int[] {-1, 2, MIN, MAX}) check.due("part " + part, x.waits(0, 1, 0, part), NO);
        Check.sheet(x, 1, 2, 1, 1);
        check.due("no tour", x.waits(1, 1, 0, 0), NO);
        FlatToLet y = offering(1, 2);
        check.due("two of two", y.waits(0, 2, 0, 1), 2);
        check.due("three of two", y.waits(0, 3, 0, 1), NO);
        check.due("one of none", offering().waits(0, 1, 0, 0), NO);
        check.due("none of none", offering().waits(0, 0, 0, 0), NO);
    }
}
