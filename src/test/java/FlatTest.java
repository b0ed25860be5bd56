/** Promises 1 to 6, 8 to 12: the flat, the tape, the law, viewers. */
public final class FlatTest {
    private static final int BAD = FlatToLet.BAD, FULL = FlatToLet.FULL;
    private static final int MIN = Integer.MIN_VALUE, MAX = Integer.MAX_VALUE;
    private static final Check check = new Check();

    public static void main(String[] args) {
        newObject();
        hours();
        rooms();
        feeds();
        forces();
        asks();
        viewers();
        puts();
        check.end();
    }

    private static void newObject() {
        FlatToLet x = new FlatToLet();
        int[] counts = {0, 6, 1, 0, 0};
        for (int what = 0; what < 5; what++) check.due("new: count(" + what + ")", x.count(what), counts[what]);
        for (int what : new int[] {-1, 5, MIN, MAX}) check.due("count(" + what + ")", x.count(what), BAD);
        for (int r = 0; r < 6; r++) {
            check.due("new: light of " + r, x.told(r, 0), 0);
            check.due("new: damp of " + r, x.told(r, 1), 0);
        }
        check.due("new: one(0, 0)", x.one(0, 0), -5);
        for (int s = 0; s < 4; s++) check.due("new: sheet " + s, x.cell(s, 0, 1), -11);
        check.due("new: back()", x.back(), FlatToLet.STATE);
        x.viewer(0, 0);
        FlatToLet y = new FlatToLet();
        check.due("another's viewers", y.count(0), 0);
    }

    private static void hours() {
        FlatToLet x = new FlatToLet();
        check.due("hours(0)", x.hours(0), 6);
        check.due("hours(11)", x.hours(11), 0);
        for (int h : new int[] {-1, 12, MIN, MAX}) check.due("hours(" + h + ")", x.hours(h), BAD);
        check.due("hours(5)", x.hours(5), 11);
        check.due("count(1)", x.count(1), 5);
    }

    private static void rooms() {
        FlatToLet x = new FlatToLet();
        check.due("room(0, 0, 99)", x.room(0, 0, 99), 0);
        check.due("room(0, 0, 7)", x.room(0, 0, 7), 99);
        check.due("room(5, 1, 12)", x.room(5, 1, 12), 0);
        check.due("room(5, 0, 13)", x.room(5, 0, 13), 0);
        check.due("told(0, 0)", x.told(0, 0), 7);
        check.due("told(0, 1)", x.told(0, 1), 0);
        check.due("told(5, 1)", x.told(5, 1), 12);
        check.due("told(5, 0)", x.told(5, 0), 13);
        for (int r : new int[] {-1, 6, MIN, MAX}) {
            check.due("room of no room", x.room(r, 0, 1), -5);
            check.due("room of no room, what", x.room(r, 9, 100), -5);
            check.due("told of no room", x.told(r, 0), -5);
            check.due("told of no room, what", x.told(r, 2), -5);
        }
        for (int what : new int[] {-1, 2, MIN, MAX}) {
            check.due("room, what", x.room(0, what, 1), -7);
            check.due("told, what", x.told(0, what), -7);
        }
        for (int v : new int[] {-1, 100, MIN, MAX}) check.due("room, v", x.room(0, 0, v), -7);
        check.due("refused, nothing came", x.told(0, 0), 7);
    }

    private static void feeds() {
        FlatToLet x = new FlatToLet();
        check.due("feed 5", x.feed(5, 0, 255, 97, 10, 32), 5);
        check.due("feed 1", x.feed(1, 'a', 0, 0, 0, 0), 6);
        for (int n : new int[] {0, -1, 6, MIN, MAX}) check.due("feed n", x.feed(n, 0, 0, 0, 0, 0), BAD);
        for (int b : new int[] {-1, 256, MIN, MAX}) {
            check.due("feed a", x.feed(1, b, 0, 0, 0, 0), BAD);
            check.due("feed b", x.feed(1, 0, b, 0, 0, 0), BAD);
            check.due("feed c", x.feed(1, 0, 0, b, 0, 0), BAD);
            check.due("feed d", x.feed(1, 0, 0, 0, b, 0), BAD);
            check.due("feed e", x.feed(1, 0, 0, 0, 0, b), BAD);
        }
        check.due("refused, none came", x.count(4), 6);
        check.due("in order", Check.read(x, ""), -100);
        for (int n = 1; n <= 5; n++) x.feed(n, 'l', 'i', 'k', 'e', 's');
        check.due("1 + 2 + .. + 5", x.count(4), 15);
        x.text();

        for (int k = 1; k <= 31; k++) check.due("feed", x.feed(5, 32, 32, 32, 32, 32), 5 * k);
        check.due("to 158", x.feed(3, 32, 32, 32, 0, 0), 158);
        check.due("3 more", x.feed(3, 32, 32, 32, 0, 0), FULL);
        check.due("3 more, bad", x.feed(3, 32, 32, 32, 0, 256), BAD);
        check.due("none came", x.count(4), 158);
        check.due("to 160", x.feed(2, 32, 32, 0, 0, 0), 160);
        check.due("1 more", x.feed(1, 32, 0, 0, 0, 0), FULL);
        check.due("all blanks", x.text(), -260);
        check.due("empty then", x.count(4), 0);
    }

    private static void forces() {
        FlatToLet x = new FlatToLet();
        check.due("force(0)", x.force(0), 0);
        check.due("force(1)", x.force(1), BAD);
        check.due("a text", Check.read(x, "likes 1 ; keeps 2 ; offers 3 ;"), 1);
        check.due("no law yet", x.count(3), 0);
        check.due("force(1)", x.force(1), 0);
        check.due("count(3)", x.count(3), 1);
        for (int t : new int[] {-1, 2, 6, MIN, MAX}) check.due("force(" + t + ")", x.force(t), BAD);
        check.due("force(0)", x.force(0), 1);
    }

    private static void asks() {
        FlatToLet x = new FlatToLet();
        check.due("nobody", x.asks(0, 0, 0, 1), -1000);
        x.viewer(57, 32199);
        x.viewer(0, 500);
        x.room(2, 0, 40);
        x.room(2, 1, 15);
        check.due("likes", x.asks(0, 0, 2, 1), 25);
        check.due("keeps", x.asks(1, 0, 2, 1), 1);
        check.due("offers", x.asks(2, 0, 2, 1), 321);
        check.due("offers of the other", x.asks(2, 1, 2, 1), 5);
        Check.law(x, "likes room*10+crowd ; keeps (hour=6)*5+crowd ; offers light+damp*2+room*3+crowd+rich+hour ;");
        check.due("likes, room 2", x.asks(0, 0, 2, 8), 28);
        check.due("likes, room 5", x.asks(0, 0, 5, 1), 51);
        check.due("keeps", x.asks(1, 0, 0, 3), 8);
        check.due("keeps, bound", x.asks(1, 0, 0, 8), 9);
        check.due("likes, room 2, once more", x.asks(0, 0, 2, 8), 28);
        check.due("offers, light, damp, room 0", x.asks(2, 0, 2, 4), 331);
        x.hours(11);
        check.due("keeps, hour", x.asks(1, 0, 0, 3), 3);
        check.due("offers, hour", x.asks(2, 0, 2, 4), 336);
        Check.law(x, "likes 0-100*crowd ; keeps 0-1 ; offers 0-1 ;");
        check.due("likes at least", x.asks(0, 0, 0, 1), -99);
        check.due("keeps at least", x.asks(1, 0, 0, 1), 0);
        check.due("offers at least", x.asks(2, 0, 0, 1), 0);
        Check.law(x, "likes 100 ; keeps 10 ; offers 1000 ;");
        check.due("likes at most", x.asks(0, 0, 0, 1), 99);
        check.due("keeps at most", x.asks(1, 0, 0, 1), 9);
        check.due("offers at most", x.asks(2, 0, 0, 1), 999);
        for (int bad : new int[] {-1, 9, MIN, MAX}) {
            check.due("part", x.asks(bad, 0, 0, 1), -1000);
            check.due("viewer", x.asks(0, bad, 0, 1), -1000);
            check.due("room", x.asks(0, 0, bad, 1), -1000);
            check.due("room of offers", x.asks(2, 0, bad, 1), -1000);
            check.due("crowd", x.asks(0, 0, 0, bad), -1000);
        }
        check.due("part 3", x.asks(3, 0, 0, 1), -1000);
        check.due("viewer 2", x.asks(0, 2, 0, 1), -1000);
        check.due("room 6", x.asks(0, 0, 6, 1), -1000);
        check.due("crowd 0", x.asks(0, 0, 0, 0), -1000);
    }

    private static void viewers() {
        FlatToLet x = new FlatToLet();
        check.due("viewer(59, 99999)", x.viewer(59, 99999), 0);
        check.due("viewer(0, 0)", x.viewer(0, 0), 1);
        check.due("viewer(23, 4567)", x.viewer(23, 4567), 2);
        int[] first = {999, 99, 5, 9}, third = {45, 67, 2, 3};
        for (int what = 0; what < 4; what++) {
            check.due("one(0, " + what + ")", x.one(0, what), first[what]);
            check.due("one(1, " + what + ")", x.one(1, what), 0);
            check.due("one(2, " + what + ")", x.one(2, what), third[what]);
        }
        for (int bad : new int[] {-1, 60, MIN, MAX}) check.due("kindMore", x.viewer(bad, 0), BAD);
        for (int bad : new int[] {-1, 100000, MIN, MAX}) check.due("richQuiet", x.viewer(0, bad), BAD);
        check.due("refused, none came", x.count(0), 3);
        for (int v = 3; v < 8; v++) check.due("viewer", x.viewer(10, 100 * v), v);
        check.due("a ninth", x.viewer(10, 100), FULL);
        check.due("a ninth, bad", x.viewer(60, 100), BAD);
        check.due("a ninth, bad", x.viewer(0, 100000), BAD);
        check.due("count(0)", x.count(0), 8);
        check.due("one(7, 0)", x.one(7, 0), 7);
    }

    private static void puts() {
        FlatToLet x = new FlatToLet();
        check.due("nobody", x.put(0, 0, 0), -5);
        x.viewer(35, 12345);
        x.viewer(0, 99999);
        check.due("rich", x.put(0, 0, 999), 123);
        check.due("quiet", x.put(0, 1, 99), 45);
        check.due("rich is", x.one(0, 0), 999);
        check.due("quiet is", x.one(0, 1), 99);
        check.due("rich 0", x.put(0, 0, 0), 999);
        check.due("quiet 0", x.put(0, 1, 0), 99);
        check.due("kind", x.one(0, 2), 3);
        check.due("more", x.one(0, 3), 5);
        check.due("the other", x.one(1, 0), 999);
        for (int v : new int[] {-1, 2, 8, MIN, MAX}) {
            check.due("put of nobody", x.put(v, 5, -1), -5);
            check.due("one of nobody", x.one(v, 9), -5);
        }
        for (int what : new int[] {-1, 2, MIN, MAX}) check.due("put, what", x.put(0, what, 0), -7);
        for (int what : new int[] {-1, 4, MIN, MAX}) check.due("one, what", x.one(0, what), -7);
        for (int to : new int[] {-1, 1000, MIN, MAX}) check.due("put, rich", x.put(0, 0, to), -7);
        for (int to : new int[] {-1, 100, MIN, MAX}) check.due("put, quiet", x.put(0, 1, to), -7);
        check.due("refused, as it was", x.one(0, 0), 0);
    }
}
