/** Promises 28 to 31: orders by lots, images. */
public final class LotsTest {
    private static final int MIN = Integer.MIN_VALUE, MAX = Integer.MAX_VALUE;
    private static final long NO = FlatToLet.NO;
    private static final Check check = new Check();

    public static void main(String[] args) {
        drawn();
        odds();
        images();
        check.end();
    }

    /** Liked by the first text: 50, -10, 80, -40, 45, -65. */
    private static FlatToLet flat() {
        FlatToLet x = new FlatToLet();
        Check.lights(x, 60, 30, 80, 20, 50, 5);
        Check.damps(x, 10, 40, 0, 60, 5, 70);
        return x;
    }

    private static void drawn() {
        FlatToLet x = flat();
        check.due("nobody", x.drawn(0, 0, 0), -1000007);
        x.viewer(0, 20000);
        x.viewer(30, 20000);
        x.viewer(25, 20000);
        // The lots of 0 are 48271, 182605794, 1291394886, 1914720637, 2078669041.
        check.due("digits of 0", x.drawn(0, 0, 0), 146352);
        check.due("mind of 0", x.drawn(0, 0, 1), 60);
        check.due("offer of 0", x.drawn(0, 0, 2), 200);
        check.due("digits of 7", x.drawn(7, 0, 0), 452163);
        check.due("doctor by 0: 50 twice, -80, -130, 80, 45, -20", x.drawn(0, 1, 1), 100 - 80 - 99 + 80 + 45 - 20);
        check.due("doctor offers", x.drawn(0, 1, 2), 226);
        check.due("student by 0: -10 five times more", x.drawn(0, 2, 1), 60 - 50);
        check.due("student by 7: 80 five times more", x.drawn(7, 2, 1), 60 + 400);
        Check.law(x, "likes 1 ; keeps crowd ; offers crowd ;");
        check.due("alone", x.drawn(99999, 0, 1), 6);
        check.due("alone, offer", x.drawn(99999, 0, 2), 1);
        boolean[] first = new boolean[6];
        for (int seed = 0; seed < 60; seed++) {
            int digits = x.drawn(seed, 0, 0);
            int all = 0;
            for (int rest = digits; rest > 0; rest /= 10) all |= 1 << rest % 10;
            check.due("all six by " + seed, all, 0b1111110);
            first[digits / 100000 - 1] = true;
        }
        for (boolean was : first) check.that("each is first by some", was);
        for (int seed : new int[] {-1, 100000, MIN, MAX}) check.due("seed", x.drawn(seed, 0, 0), -1000007);
        for (int v : new int[] {-1, 3, 8, MIN, MAX}) {
            for (int what = 0; what < 3; what++) check.due("viewer", x.drawn(0, v, what), -1000007);
        }
        for (int what : new int[] {-1, 3, MIN, MAX}) check.due("what", x.drawn(0, 0, what), -1000007);
    }

    private static FlatToLet flatOfTwo() {
        FlatToLet x = flat();
        x.viewer(0, 20000);
        x.viewer(35, 20000);
        return x;
    }

    private static void odds() {
        FlatToLet x = flatOfTwo();
        check.due("always", x.odds(0, 40, 200, 0), 1);
        check.due("always", x.odds(0, 40, 200, 1), 1);
        check.due("never", x.odds(0, 40, 201, 0), 0);
        check.due("never, below the line", x.odds(0, 40, 201, 1), 1);
        check.due("0 or more", x.odds(99999, 1, 0, 0), 1);
        for (int least = 0; least < 400; least += 7) {
            FlatToLet y = flatOfTwo();
            for (int seeds = 1; seeds <= 40; seeds += 13) {
                int above = 0;
                for (int k = 0; k < seeds; k++) if (y.drawn(300 + k, 1, 2) >= least) above++;
                long a = y.odds(300, seeds, 10000 + least, 0), b = y.odds(300, seeds, 10000 + least, 1);
                check.due("odds of " + least + " by " + seeds, a * seeds, b * above);
                check.due("in lowest terms", java.math.BigInteger.valueOf(a).gcd(java.math.BigInteger.valueOf(b)).intValue(), 1);
            }
        }
        Check.law(x, "likes 1 ; keeps 1 ; offers (crowd=1)*5 ;");
        check.due("alone", x.odds(0, 7, 5, 0), 1);
        x.force(0);
        check.that("past 99999", x.odds(99999, 40, 10001, 1) > 0);
        for (int part = 0; part < 2; part++) {
            for (int seed : new int[] {-1, 100000, MIN, MAX}) check.due("seed", x.odds(seed, 1, 0, part), NO);
            for (int seeds : new int[] {0, -1, 41, MIN, MAX}) check.due("seeds", x.odds(0, seeds, 0, part), NO);
            for (int v : new int[] {-1, -10000, 20000, 80000, MIN, MAX}) check.due("viewer", x.odds(0, 1, v, part), NO);
        }
        for (int part : new int[] {-1, 2, MIN, MAX}) check.due("part", x.odds(0, 1, 0, part), NO);
        check.due("least 9999 is a number", x.odds(0, 1, 19999, 0), 0);
    }

    private static void images() {
        FlatToLet x = flat();
        check.due("none yet", x.back(), FlatToLet.STATE);
        x.viewer(15, 12345);
        x.viewer(26, 54321);
        x.hours(3);
        check.due("kept", x.image(), 2);
        check.due("nothing changed", x.count(0), 2);
        x.hours(9);
        x.room(0, 0, 1);
        x.room(5, 1, 2);
        x.put(0, 0, 999);
        x.put(1, 1, 99);
        x.viewer(37, 77777);
        Check.law(x, "likes 1 ; keeps 1 ; offers 1 ;");
        Check.sheet(x, 0, 2, 0);
        x.feed(3, 'a', 'b', 'c', 0, 0);
        check.due("back", x.back(), 2);
        int[] counts = {2, 3, 2, 0, 3};
        for (int what = 0; what < 5; what++) check.due("count(" + what + ")", x.count(what), counts[what]);
        check.due("light", x.told(0, 0), 60);
        check.due("damp", x.told(5, 1), 70);
        check.due("rich", x.one(0, 0), 123);
        check.due("quiet", x.one(1, 1), 21);
        check.due("rich of the other", x.one(1, 0), 543);
        check.due("who came since is none", x.one(2, 0), -5);
        check.due("a sheet is no part of it", x.tour(0, 0, 1, 0), 80);
        check.due("another comes", x.viewer(48, 11111), 2);
        check.due("of its own kind", x.one(2, 2), 4);
        check.due("of its own more", x.one(2, 3), 8);
        check.due("back again", x.back(), 2);
        x.force(1);
        x.hours(1);
        x.put(0, 0, 1);
        check.due("a later image", x.image(), 2);
        x.force(0);
        x.hours(2);
        x.put(0, 0, 2);
        check.due("back to the later", x.back(), 2);
        check.due("the law", x.count(3), 1);
        check.due("the hour", x.count(1), 1);
        check.due("rich", x.one(0, 0), 1);
        FlatToLet y = new FlatToLet();
        check.due("of nobody", y.image(), 0);
        y.viewer(0, 0);
        check.due("back to nobody", y.back(), 0);
        check.due("nobody", y.one(0, 0), -5);
    }
}
