/** Promises 15 to 21: what is best. */
public final class BestTest {
    private static final int MIN = Integer.MIN_VALUE, MAX = Integer.MAX_VALUE;
    private static final long NO = FlatToLet.NO;
    private static final Check check = new Check();

    public static void main(String[] args) {
        best();
        when();
        together();
        without();
        paint();
        tenant();
        waits();
        refusals();
        check.end();
    }

    /** Liked by the first text: 50, -10, 80, -40, 45, -65. */
    private static FlatToLet flat() {
        FlatToLet x = new FlatToLet();
        Check.lights(x, 60, 30, 80, 20, 50, 5);
        Check.damps(x, 10, 40, 0, 60, 5, 70);
        Check.sheet(x, 0, 2, 0, 1, 2, 3);
        return x;
    }

    private static void best() {
        FlatToLet x = flat();
        check.due("nobody at all", x.best(-1, 1, 0), 123456);
        check.due("nobody at all, how much", x.best(-1, 8, 1), 0);
        x.viewer(0, 0);
        x.viewer(14, 0);
        x.viewer(22, 0);
        int[] digits = {123456, 312456, 124563}, most = {60, 132, 220};
        for (int v = 0; v < 3; v++) {
            check.due("best of " + v, x.best(v, 1, 0), digits[v]);
            check.due("best of " + v + ", how much", x.best(v, 1, 1), most[v]);
        }
        // The first room gives the couple once more what it likes, the last the student twice: 45 + 160.
        check.due("of all", x.best(-1, 1, 0), 512463);
        check.due("of all, how much", x.best(-1, 1, 1), 60 + 52 + 60 + 205);
        check.due("asked, the flat is as it was", x.told(4, 0), 50);
        Check.law(x, "likes room*(crowd-4) ; keeps 1+hour ; offers 0 ;");
        x.hours(1);
        check.due("couple, crowd 5", x.best(1, 5, 0), 612345);
        check.due("couple, crowd 5, how much", x.best(1, 5, 1), 2 * (15 - 8) + 2 * 5);
        check.due("couple, crowd 4", x.best(1, 4, 0), 213456);
        check.due("couple, crowd 4, how much", x.best(1, 4, 1), -16);
        check.due("couple, crowd 3", x.best(1, 3, 0), 213456);
        check.due("couple, crowd 3, how much", x.best(1, 3, 1), -2 * (15 + 8) - 2);
        FlatToLet y = new FlatToLet();
        for (int v = 0; v < 8; v++) y.viewer(29, 0);
        Check.law(y, "likes 99 ; keeps 9 ; offers 0 ;");
        check.due("the most of all", y.best(-1, 8, 1), 8 * 99 * (9 * 6 + 9));
        Check.law(y, "likes -99 ; keeps 9 ; offers 0 ;");
        check.due("the least of all", y.best(-1, 8, 1), -8 * 99 * (9 * 6 + 9));
        for (int v : new int[] {-2, 8, MIN, MAX}) check.due("best of " + v, y.best(v, 0, 9), -1000005);
        for (int bad : new int[] {-1, 0, 9, MIN, MAX}) check.due("crowd " + bad, y.best(-1, bad, 0), -1000007);
        for (int bad : new int[] {-1, 2, MIN, MAX}) check.due("what " + bad, y.best(0, 1, bad), -1000007);
        check.due("no viewer 0", new FlatToLet().best(0, 1, 0), -1000005);
    }

    private static void when() {
        FlatToLet x = flat();
        x.viewer(0, 10000);
        x.viewer(20, 9500);
        x.viewer(50, 99900);
        check.due("nobody", x.when(0, 0, 0), 0);
        check.due("nobody, how much", x.when(0, 0, 1), 0);
        check.due("all hours alike", x.when(0, 3, 0), 0);
        check.due("all hours alike, how much", x.when(0, 3, 1), 100);
        check.due("a cat", x.when(0, 4, 0), 0);
        check.due("a cat, how much", x.when(0, 4, 1), 0);
        check.due("three", x.when(0, 7, 1), 125);
        Check.law(x, "likes 1 ; keeps 1 ; offers rich+(hour=5 or hour=9)*crowd+(rich=95)*(hour=11)*6 ;");
        check.due("at 5", x.when(0, 1, 0), 5);
        check.due("at 5, how much", x.when(0, 1, 1), 101);
        check.due("at 11", x.when(0, 2, 0), 11);
        check.due("at 11, how much", x.when(0, 2, 1), 101);
        check.due("two", x.when(0, 3, 0), 5);
        check.due("two, how much", x.when(0, 3, 1), 102);
        check.due("the hour is as it was", x.count(1), 6);
        x.hours(9);
        check.due("at another hour asked", x.when(0, 1, 0), 5);
        Check.law(x, "likes hour-10 ; keeps 1 ; offers 7 ;");
        check.due("liked at 11 alone", x.when(0, 1, 0), 11);
        Check.law(x, "likes 5-hour ; keeps 1 ; offers hour ;");
        check.due("the last that is liked", x.when(0, 1, 0), 4);
    }

    private static void together() {
        FlatToLet x = flat();
        check.due("no viewers", x.together(0, 0), 0);
        check.due("no viewers, how much", x.together(0, 1), 0);
        x.viewer(50, 99900);
        check.due("a cat", x.together(0, 0), 0);
        check.due("a cat, how much", x.together(0, 1), 0);
        x.viewer(20, 10000);
        x.viewer(0, 12000);
        check.due("all three", x.together(0, 0), 7);
        check.due("all three, how much", x.together(0, 1), 130);
        x.put(2, 0, 130);
        check.due("of like ones the fewest", x.together(0, 0), 4);
        x.viewer(0, 13000);
        check.due("four make the student's 140", x.together(0, 0), 15);
        x.put(2, 0, 140);
        x.put(3, 0, 140);
        check.due("of two the least as bits", x.together(0, 0), 4);
        check.due("of two, how much", x.together(0, 1), 140);
        Check.law(x, "likes 1 ; keeps 1 ; offers (crowd=2)*rich ;");
        check.due("two, the least with the richest of them", x.together(0, 0), 5);
        Check.law(x, "likes 1 ; keeps 1 ; offers (crowd<4)*100+crowd ;");
        check.due("three of four, one of them a student", x.together(0, 0), 7);
        check.due("three of four, how much", x.together(0, 1), 133);
        Check.law(x, "likes 1 ; keeps 1 ; offers (crowd=1)*50 ;");
        check.due("one alone", x.together(0, 0), 2);
        FlatToLet y = flat();
        for (int v = 0; v < 8; v++) y.viewer(v == 7 ? 20 : 50, 100);
        check.due("eight", y.together(0, 0), 255);
        check.due("eight, how much", y.together(0, 1), 81);
        Check.sheet(y, 0, 2, 5);
        check.due("eight, nothing in mind", y.together(0, 1), 80);
    }

    private static void without() {
        FlatToLet x = flat();
        x.viewer(0, 0);
        x.viewer(14, 0);
        x.viewer(22, 0);
        check.due("without 3", x.without(0, 0, 0), 3);
        check.due("without 3, how much", x.without(0, 0, 1), 120);
        Check.sheet(x, 1, 2, 0, 2);
        check.due("none", x.without(1, 0, 0), -1);
        check.due("none, as so", x.without(1, 0, 1), 130);
        Check.sheet(x, 1, 2, 1, 2);
        check.due("couple, another first", x.without(1, 1, 0), 1);
        check.due("couple, another first, how much", x.without(1, 1, 1), 160);
        Check.sheet(x, 1, 2, 2, 1);
        check.due("student, another last", x.without(1, 2, 0), 1);
        check.due("student, another last, how much", x.without(1, 2, 1), 240);
        Check.sheet(x, 1, 2, 0, 4);
        check.due("couple, a better first", x.without(1, 1, 0), -1);
        Check.sheet(x, 1, 2);
        check.due("no room", x.without(1, 0, 0), -1);
        check.due("no room, how much", x.without(1, 0, 1), 0);
        Check.sheet(x, 1, 2, 3);
        check.due("one room", x.without(1, 0, 0), 3);
        check.due("one room, how much", x.without(1, 0, 1), 0);
        x.room(3, 1, 20);
        check.due("one room of 0: not more", x.without(1, 0, 0), -1);
        x.room(3, 1, 30);
        x.room(5, 1, 15);
        Check.sheet(x, 1, 2, 2, 5, 1, 3);
        check.due("of like ones the first of the tour", x.without(1, 0, 0), 5);
        check.due("of like ones, how much", x.without(1, 0, 1), 60);
        Check.law(x, "likes crowd-room ; keeps 1 ; offers 1 ;");
        Check.sheet(x, 1, 2, 0, 1, 2);
        check.due("alone", x.without(1, 0, 0), 2);
        check.due("alone, how much", x.without(1, 0, 1), 1);
    }

    private static void paint() {
        FlatToLet x = flat();
        x.viewer(0, 20000);
        x.viewer(30, 20000);
        Check.sheet(x, 1, 2, 1);
        check.due("liked then", x.paint(1, 0, 1), 200);
        check.due("doctor, liked then, twice of the first", x.paint(1, 1, 1), 200 + 60);
        check.due("not of the tour", x.paint(1, 1, 5), 0);
        Check.sheet(x, 1, 2, 0, 1);
        check.due("doctor, room 0, twice of the first", x.paint(1, 1, 0), 20);
        check.due("doctor, room 1", x.paint(1, 1, 1), 20 + 30);
        check.due("liked anyway", x.paint(1, 0, 1), 0);
        check.due("the damp is as it was", x.told(1, 1), 40);
        Check.law(x, "likes damp-5 ; keeps 1 ; offers rich+crowd ;");
        Check.sheet(x, 1, 2, 0);
        check.due("below 0", x.paint(1, 0, 0), -201);
        Check.law(x, "likes 1 ; keeps 1 ; offers damp+1 ;");
        check.due("offers see no damp", x.paint(1, 0, 0), 0);
    }

    private static void tenant() {
        FlatToLet x = flat();
        check.due("no viewers", x.tenant(0, 0, 0), -1);
        x.viewer(0, 20030);
        x.viewer(0, 30020);
        x.viewer(0, 30025);
        x.viewer(0, 30025);
        x.viewer(50, 99999);
        check.due("most, then quiet, then first", x.tenant(0, 0, 0), 2);
        check.due("quiet 25", x.tenant(0, 25, 0), 2);
        check.due("quiet 26", x.tenant(0, 26, 0), 0);
        check.due("quiet 30", x.tenant(0, 30, 0), 0);
        check.due("quiet 31", x.tenant(0, 31, 0), 4);
        check.due("quiet 99, 0 or more", x.tenant(0, 99, 0), 4);
        check.due("quiet 99, 1 or more", x.tenant(0, 99, 1), -1);
        check.due("300 or more", x.tenant(0, 0, 300), 2);
        check.due("301 or more", x.tenant(0, 0, 301), -1);
        check.due("9999 or more", x.tenant(0, 0, 9999), -1);
        x.put(1, 1, 26);
        check.due("quieter", x.tenant(0, 0, 0), 1);
        Check.law(x, "likes 99 ; keeps 9 ; offers rich*(crowd=1) ;");
        check.due("alone", x.tenant(0, 0, 0), 1);
        x.viewer(30, 100);
        check.due("a doctor offers above 999", x.tenant(0, 0, 4457), -1);
        check.due("a doctor offers above 999", x.tenant(0, 0, 99 * (18 + 3 * 9) + 1), 5);
    }

    private static void waits(FlatToLet x, int n, int skip, int above, int below) {
        check.due("waits(0, " + n + ", " + skip + ", 0)", x.waits(0, n, skip, 0), above);
        check.due("waits(0, " + n + ", " + skip + ", 1)", x.waits(0, n, skip, 1), below);
    }

    private static void waits() {
        FlatToLet x = flat();
        for (int v = 0; v < 8; v++) x.viewer(0, 100 * (10 + v * 7 % 8));
        waits(x, 1, 0, 1, 1);
        waits(x, 2, 0, 1, 2);
        waits(x, 2, 1, 1, 2);
        waits(x, 3, 0, 1, 3);
        waits(x, 3, 1, 1, 2);
        waits(x, 3, 2, 1, 3);
        waits(x, 4, 1, 11, 24);
        waits(x, 5, 2, 13, 30);
        waits(x, 6, 0, 1, 6);
        waits(x, 6, 1, 137, 360);
        waits(x, 6, 2, 77, 180);
        waits(x, 6, 5, 1, 6);
        x.put(0, 0, 0);
        // Whom nobody is ahead of offers more than all ahead, be it nothing.
        waits(x, 2, 0, 1, 2);
        FlatToLet y = flat();
        y.viewer(0, 500);
        y.viewer(0, 100);
        y.viewer(0, 500);
        Check.law(y, "likes 1 ; keeps 1 ; offers rich*(crowd=1) ;");
        waits(y, 2, 0, 1, 2);
        y.force(0);
        // More than all ahead, not as much: 5 5 1 and its twin take the 1.
        waits(y, 3, 1, 2, 3);
        waits(y, 3, 0, 2, 3);
        waits(y, 3, 2, 2, 3);
        y.put(1, 0, 5);
        waits(y, 3, 1, 1, 1);
        Check.sheet(y, 0, 2);
        waits(y, 3, 2, 1, 1);
    }

    private static void refusals() {
        FlatToLet x = flat();
        x.viewer(0, 100);
        x.viewer(0, 100);
        Check.sheet(x, 1, 2, 4, 4);
        Check.sheet(x, 2, 2, 4);
        for (int s : new int[] {-1, 4, MIN, MAX}) refused(x, s, -2);
        refused(x, 3, -11);
        refused(x, 1, -2);
        for (int some : new int[] {-1, 4, MIN, MAX}) check.due("when, some", x.when(2, some, 0), -7);
        for (int what : new int[] {-1, 2, MIN, MAX}) {
            check.due("when, what", x.when(2, 1, what), -7);
            check.due("together, what", x.together(2, what), -7);
            check.due("without, what", x.without(2, 0, what), -1000007);
            check.due("waits, part", x.waits(2, 1, 0, what), NO);
            check.due("without, viewer", x.without(2, what, 0), -1000007);
            check.due("paint, viewer", x.paint(2, what, 0), -1000005);
        }
        for (int r : new int[] {-1, 6, MIN, MAX}) check.due("paint, room", x.paint(2, 0, r), -1000005);
        for (int quiet : new int[] {-1, 100, MIN, MAX}) check.due("tenant, quiet", x.tenant(2, quiet, 0), -7);
        for (int least : new int[] {-1, 10000, MIN, MAX}) check.due("tenant, least", x.tenant(2, 0, least), -7);
        for (int n : new int[] {0, -1, 3, MIN, MAX}) check.due("waits, n", x.waits(2, n, 0, 0), NO);
        for (int skip : new int[] {-1, 2, MIN, MAX}) check.due("waits, skip", x.waits(2, 2, skip, 0), NO);
        check.due("waits, skip 1 of 1", x.waits(2, 1, 1, 0), NO);
        for (int v = 2; v < 8; v++) x.viewer(0, 100);
        check.due("waits, 7 of 8", x.waits(2, 7, 0, 0), NO);
        check.due("waits, 6 of 8", x.waits(2, 6, 0, 0), 1);
    }

    /** A sheet's refusal is ahead of what all else may be. */
    private static void refused(FlatToLet x, int s, int refusal) {
        check.due("when", x.when(s, -1, 9), refusal);
        check.due("together", x.together(s, 9), refusal);
        check.due("tenant", x.tenant(s, -1, -1), refusal);
        check.due("without", x.without(s, 9, 9), -1000000 + refusal);
        check.due("paint", x.paint(s, 9, 9), -1000000 + refusal);
        check.due("waits", x.waits(s, 1, 0, 0), NO);
    }
}
