/** Promises 1 to 12, sentence by sentence: what is taken and refused at the bounds, what is empty or full. */
public final class Promises1To12Test {
    private static final int BAD = FlatToLet.BAD, FULL = FlatToLet.FULL;
    private static final int MIN = Integer.MIN_VALUE, MAX = Integer.MAX_VALUE;
    private static final String GOOD = "likes 1;keeps 2;offers 3;";
    private static final Check check = new Check();

    public static void main(String[] args) {
        constants();
        newObject();
        lastCall();
        count();
        hours();
        room();
        told();
        feed();
        feedFull();
        text();
        textFull();
        force();
        asks();
        viewer();
        put();
        one();
        check.end();
    }

    private static FlatToLet with(int viewers) {
        FlatToLet x = new FlatToLet();
        for (int v = 0; v < viewers; v++) x.viewer(7 * v, 100 * v + v);
        return x;
    }

    private static void constants() {
        check.says("Terms 2", "NONE there is no such thing; BAD a number is not as told; STATE as told; FULL.");
        check.due("NONE", FlatToLet.NONE, -1);
        check.due("BAD", FlatToLet.BAD, -2);
        check.due("STATE", FlatToLet.STATE, -3);
        check.due("FULL", FlatToLet.FULL, -4);
        check.due("NO", FlatToLet.NO, -(1L << 62));
    }

    /** An object is used for at most 512 calls, and the last answers as the first. */
    private static void lastCall() {
        FlatToLet x = new FlatToLet();
        for (int n = 1; n <= 510; n++) check.due("call " + n, x.hours(n % 12), n == 1 ? 6 : (n - 1) % 12);
        check.due("call 511", x.viewer(59, 99999), 0);
        check.due("call 512", x.one(0, 0), 999);
    }

    private static void newObject() {
        check.says("Promise 1", "No VIEWERS.");
        FlatToLet x = new FlatToLet();
        check.due("how many", x.count(0), 0);
        check.due("none is 0", x.one(0, 0), -5);
        check.due("none is taken", x.taken(0, 0), -11);
        check.due("none is quiet", x.taken(8, 6), -11);
        check.due("none is asked", x.asks(0, 0, 0, 1), -1000);
        check.due("the first is 0", x.viewer(0, 0), 0);
        check.due("not another object's", new FlatToLet().count(0), 0);
    }

    private static void count() {
        check.says("Promise 2", "0 VIEWERS, 1 THE HOUR, 2 TEXTS, 3 THE LAW, 4 bytes of THE TAPE. BAD.");
        FlatToLet x = with(3);
        x.hours(11);
        for (int t = 0; t < 4; t++) Check.read(x, GOOD);
        x.force(4);
        Check.feed(x, "1234567");
        int[] counts = {3, 11, 5, 4, 7};
        for (int what = 0; what < 5; what++) check.due("count(" + what + ")", x.count(what), counts[what]);
        for (int what : new int[] {-1, 5, 6, MIN, MAX}) check.due("count(" + what + ")", x.count(what), BAD);
        FlatToLet full = with(8);
        for (int t = 0; t < 5; t++) Check.read(full, GOOD);
        full.force(5);
        for (int n = 0; n < 32; n++) full.feed(5, 0, 0, 0, 0, 0);
        int[] most = {8, 6, 6, 5, 160};
        for (int what = 0; what < 5; what++) check.due("full: count(" + what + ")", full.count(what), most[what]);
    }

    private static void hours() {
        check.says("Promise 3", "THE HOUR becomes h: which it was. BAD.");
        FlatToLet x = new FlatToLet();
        check.due("to 6, which it was", x.hours(6), 6);
        check.due("to 0", x.hours(0), 6);
        check.due("to 11", x.hours(11), 0);
        for (int h : new int[] {-1, 12, MIN, MAX}) {
            check.due("to " + h, x.hours(h), BAD);
            check.due("as it was", x.count(1), 11);
        }
        check.due("to 3", x.hours(3), 11);
    }

    private static void room() {
        check.says("Promise 4", "LIGHT (what 0), DAMP (1) of a ROOM becomes v: what it was. -5: no such ROOM; -7: what, v.");
        FlatToLet x = new FlatToLet();
        for (int r : new int[] {0, 5}) {
            for (int what = 0; what < 2; what++) {
                check.due("to 99", x.room(r, what, 99), 0);
                check.due("to 0", x.room(r, what, 0), 99);
                check.due("to 40", x.room(r, what, 40 + what), 0);
                for (int v : new int[] {-1, 100, MIN, MAX}) check.due("to " + v, x.room(r, what, v), -7);
            }
            for (int what : new int[] {-1, 2, MIN, MAX}) check.due("what " + what, x.room(r, what, 5), -7);
            check.due("light as it was", x.told(r, 0), 40);
            check.due("damp as it was", x.told(r, 1), 41);
        }
        for (int r : new int[] {-1, 6, MIN, MAX}) {
            check.due("room " + r, x.room(r, 0, 5), -5);
            check.due("ahead of what", x.room(r, 2, 5), -5);
            check.due("ahead of v", x.room(r, 1, 100), -5);
        }
    }

    private static void told() {
        check.says("Promise 5", "LIGHT (what 0), DAMP (1) of a ROOM. -5: no such ROOM; -7: what.");
        FlatToLet x = new FlatToLet();
        for (int r = 0; r < 6; r++) {
            x.room(r, 0, 90 + r);
            x.room(r, 1, 9 - r);
        }
        for (int r = 0; r < 6; r++) {
            check.due("light", x.told(r, 0), 90 + r);
            check.due("damp", x.told(r, 1), 9 - r);
            for (int what : new int[] {-1, 2, MIN, MAX}) check.due("what " + what, x.told(r, what), -7);
        }
        for (int r : new int[] {-1, 6, MIN, MAX}) {
            for (int what : new int[] {-1, 0, 1, 2}) check.due("room " + r, x.told(r, what), -5);
        }
    }

    private static void feed() {
        check.says("Promise 6", "The first n (1 .. 5) of five bytes (0 .. 255 each) come behind THE TAPE's, one by one: how many it has.");
        int all = 0;
        FlatToLet x = new FlatToLet();
        for (int n = 1; n <= 5; n++) {
            all += n;
            check.due("feed " + n, x.feed(n, 0, 255, 1, 254, 128), all);
            check.due("bytes", x.count(4), all);
        }
        FlatToLet y = new FlatToLet();
        y.feed(5, 'l', 'i', 'k', 'e', 's');
        y.feed(1, ' ', '#', '#', '#', '#');
        y.feed(2, '1', ';', '#', '#', '#');
        y.feed(3, 'k', 'e', 'e', '#', '#');
        y.feed(4, 'p', 's', ' ', '2', '#');
        y.feed(2, ';', 'o', '#', '#', '#');
        y.feed(5, 'f', 'f', 'e', 'r', 's');
        check.due("in their order", y.feed(3, ' ', '3', ';', '#', '#'), GOOD.length());
        check.due("a text", y.text(), 1);
        check.says("Promise 6", "BAD: n, any of the five;");
        for (int n : new int[] {0, -1, 6, MIN, MAX}) check.due("feed " + n, y.feed(n, 1, 2, 3, 4, 5), BAD);
        for (int b : new int[] {-1, 256, MIN, MAX}) {
            for (int n = 1; n <= 5; n++) {
                check.due("the first", y.feed(n, b, 2, 3, 4, 5), BAD);
                check.due("the second", y.feed(n, 1, b, 3, 4, 5), BAD);
                check.due("the third", y.feed(n, 1, 2, b, 4, 5), BAD);
                check.due("the fourth", y.feed(n, 1, 2, 3, b, 5), BAD);
                check.due("the fifth", y.feed(n, 1, 2, 3, 4, b), BAD);
            }
        }
        check.due("none came", y.count(4), 0);
        for (int b : new int[] {0, 255}) check.due("bytes of " + b, y.feed(5, b, b, b, b, b), b == 0 ? 5 : 10);
    }

    private static void feedFull() {
        check.says("Promise 6", "FULL: they have not all room (none comes).");
        for (int size = 155; size <= 160; size++) {
            for (int n = 1; n <= 5; n++) {
                FlatToLet x = new FlatToLet();
                for (int k = 0; k < 31; k++) x.feed(5, 32, 32, 32, 32, 32);
                if (size > 155) x.feed(size - 155, 32, 32, 32, 32, 32);
                boolean room = size + n <= 160;
                check.due(n + " more than " + size, x.feed(n, '#', '#', '#', '#', '#'), room ? size + n : FULL);
                check.due("bytes then", x.count(4), room ? size + n : size);
                check.due("none came", x.text(), -100 - size);
            }
        }
        FlatToLet x = new FlatToLet();
        for (int k = 0; k < 32; k++) x.feed(5, 32, 32, 32, 32, 32);
        check.due("bad ahead of full: n", x.feed(6, 1, 1, 1, 1, 1), BAD);
        check.due("bad ahead of full: n", x.feed(0, 1, 1, 1, 1, 1), BAD);
        check.due("bad ahead of full: a byte", x.feed(1, 1, 1, 1, 1, 256), BAD);
        check.due("bad ahead of full: a byte", x.feed(5, -1, 1, 1, 1, 1), BAD);
        check.due("full", x.feed(1, 1, 1, 1, 1, 1), FULL);
        check.due("empty then", x.text(), -260);
        check.due("room again", x.feed(1, 1, 1, 1, 1, 1), 1);
    }

    private static void text() {
        check.says("Promise 7", "THE TAPE, which is empty then (by a FAULT, too), is a TEXT: its number; -100 less the place of its FAULT.");
        FlatToLet x = new FlatToLet();
        check.due("an empty tape", x.text(), -100);
        check.due("a text", Check.read(x, GOOD), 1);
        check.due("empty then", x.count(4), 0);
        check.due("nothing is no text", x.text(), -100);
        check.due("another", Check.read(x, GOOD), 2);
        check.due("a fault at 0", Check.read(x, "#"), -100);
        check.due("empty then", x.count(4), 0);
        check.due("a fault at 25", Check.read(x, GOOD + "#"), -125);
        check.due("empty then", x.count(4), 0);
        check.due("no text came", x.count(2), 3);
        check.due("a number is not passed over", Check.read(x, GOOD), 3);
        check.due("the law is as it was", x.count(3), 0);
        for (int place = 0; place < 160; place++) {
            FlatToLet y = new FlatToLet();
            check.due("a fault at " + place, Check.read(y, " ".repeat(place) + "#"), -100 - place);
            check.due("empty then", y.count(4), 0);
        }
    }

    private static void textFull() {
        check.says("Promise 7", "FULL (ahead of the FAULT; then THE TAPE stays).");
        FlatToLet x = new FlatToLet();
        x.viewer(0, 0);
        for (int t = 1; t < 5; t++) Check.read(x, "likes " + t + ";keeps 1;offers 1;");
        check.due("a fault while one has room", Check.read(x, "#"), -100);
        check.due("the last that has room", Check.read(x, "likes 5;keeps 1;offers 1;"), 5);
        check.due("ahead of an empty tape's fault", x.text(), FULL);
        check.due("a good one", Check.read(x, GOOD), FULL);
        check.due("its bytes stay", x.count(4), 25);
        check.due("again", x.text(), FULL);
        check.due("its bytes stay", x.count(4), 25);
        check.due("a faulty one", Check.read(x, "#"), FULL);
        check.due("its bytes stay", x.count(4), 26);
        check.due("texts", x.count(2), 6);
        for (int t = 1; t <= 5; t++) {
            x.force(t);
            check.due("likes of " + t, x.asks(0, 0, 0, 1), t);
        }
    }

    private static void force() {
        check.says("Promise 8", "A TEXT is THE LAW: which was. BAD.");
        FlatToLet x = new FlatToLet();
        check.due("to 0, which was", x.force(0), 0);
        check.due("none such yet", x.force(1), BAD);
        Check.read(x, GOOD);
        Check.read(x, GOOD);
        check.due("the last", x.force(2), 0);
        for (int t : new int[] {-1, 3, 5, 6, MIN, MAX}) {
            check.due("force(" + t + ")", x.force(t), BAD);
            check.due("the law as it was", x.count(3), 2);
        }
        check.due("to 1", x.force(1), 2);
        check.due("to 0", x.force(0), 1);
        for (int t = 3; t <= 5; t++) Check.read(x, GOOD);
        check.due("to 5", x.force(5), 0);
        check.due("to 6", x.force(6), BAD);
    }

    private static void asks() {
        check.says("Promise 9", "What part 0 likes, 1 keeps, 2 offers says of a VIEWER and a ROOM, CROWD being so (1 .. 8). -1000: none such.");
        FlatToLet x = Check.under("likes room*10+crowd;keeps crowd;offers rich+crowd;");
        check.due("nobody", x.asks(0, 0, 0, 1), -1000);
        x.viewer(19, 10000);
        x.viewer(39, 20000);
        x.viewer(57, 30000);
        for (int crowd : new int[] {1, 2, 7, 8}) {
            for (int v = 0; v < 3; v++) {
                check.due("likes, whatever the kind", x.asks(0, v, 0, crowd), crowd);
                check.due("likes, whatever the kind", x.asks(0, v, 5, crowd), 50 + crowd);
                check.due("keeps, whatever the kind", x.asks(1, v, 0, crowd), crowd);
                check.due("offers, whatever is in mind", x.asks(2, v, 5, crowd), 100 * v + 100 + crowd);
            }
        }
        for (int part : new int[] {-1, 3, MIN, MAX}) check.due("part " + part, x.asks(part, 0, 0, 1), -1000);
        for (int part = 0; part < 3; part++) {
            for (int v : new int[] {-1, 3, 8, MIN, MAX}) check.due("viewer " + v, x.asks(part, v, 0, 1), -1000);
            for (int r : new int[] {-1, 6, MIN, MAX}) check.due("room " + r, x.asks(part, 0, r, 1), -1000);
            for (int crowd : new int[] {-1, 0, 9, MIN, MAX}) check.due("crowd " + crowd, x.asks(part, 0, 0, crowd), -1000);
        }
    }

    private static void viewer() {
        check.says("Promise 10", "A VIEWER (kindMore: 10 times KIND, and MORE; richQuiet: 100 times RICH, and QUIET): the number. BAD; FULL.");
        FlatToLet x = new FlatToLet();
        for (int km : new int[] {-1, 60, MIN, MAX}) {
            for (int rq : new int[] {-1, 0, 99999, 100000}) check.due("viewer(" + km + ", " + rq + ")", x.viewer(km, rq), BAD);
        }
        for (int rq : new int[] {-1, 100000, MIN, MAX}) {
            for (int km : new int[] {0, 59}) check.due("viewer(" + km + ", " + rq + ")", x.viewer(km, rq), BAD);
        }
        check.due("none came", x.count(0), 0);
        check.due("the least", x.viewer(0, 0), 0);
        check.due("the most", x.viewer(59, 99999), 1);
        int[] most = {999, 99, 5, 9};
        for (int what = 0; what < 4; what++) {
            check.due("of the least", x.one(0, what), 0);
            check.due("of the most", x.one(1, what), most[what]);
        }
        for (int v = 2; v < 8; v++) check.due("number", x.viewer(v, v), v);
        check.due("full", x.viewer(0, 0), FULL);
        check.due("full", x.viewer(59, 99999), FULL);
        check.due("bad ahead of full", x.viewer(60, 0), BAD);
        check.due("bad ahead of full", x.viewer(0, 100000), BAD);
        check.due("bad ahead of full", x.viewer(-1, 0), BAD);
        check.due("eight", x.count(0), 8);
        check.due("the last as it came", x.one(7, 3), 7);
    }

    private static void put() {
        check.says("Promise 11", "RICH (what 0), QUIET (1) becomes so: what it was. -5: no such VIEWER; -7: what, to.");
        FlatToLet x = with(3);
        check.due("rich to 999", x.put(2, 0, 999), 2);
        check.due("rich to 0", x.put(2, 0, 0), 999);
        check.due("rich to 50", x.put(2, 0, 50), 0);
        check.due("quiet to 99", x.put(2, 1, 99), 2);
        check.due("quiet to 0", x.put(2, 1, 0), 99);
        check.due("quiet to 60", x.put(2, 1, 60), 0);
        for (int to : new int[] {-1, 1000, MIN, MAX}) check.due("rich to " + to, x.put(2, 0, to), -7);
        for (int to : new int[] {-1, 100, 999, MIN, MAX}) check.due("quiet to " + to, x.put(2, 1, to), -7);
        for (int what : new int[] {-1, 2, MIN, MAX}) check.due("what " + what, x.put(2, what, 0), -7);
        check.due("rich as it was", x.one(2, 0), 50);
        check.due("quiet as it was", x.one(2, 1), 60);
        for (int v : new int[] {-1, 3, 8, MIN, MAX}) {
            check.due("viewer " + v, x.put(v, 0, 0), -5);
            check.due("ahead of what", x.put(v, 2, 0), -5);
            check.due("ahead of to", x.put(v, 0, 1000), -5);
        }
        check.due("of nobody", new FlatToLet().put(0, 0, 0), -5);
        FlatToLet y = with(8);
        check.due("of the last", y.put(7, 0, 5), 7);
        check.due("of none behind", y.put(8, 0, 5), -5);
        check.due("of another, as it was", y.one(6, 0), 6);
    }

    private static void one() {
        check.says("Promise 12", "What 0 RICH, 1 QUIET, 2 KIND, 3 MORE of a VIEWER. -5: no such VIEWER; -7: what.");
        FlatToLet x = new FlatToLet();
        for (int v = 0; v < 8; v++) {
            check.due("not yet", x.one(v, 0), -5);
            x.viewer(10 * (v % 6) + v, 100 * (100 + v) + 50 + v);
            int[] due = {100 + v, 50 + v, v % 6, v};
            for (int what = 0; what < 4; what++) check.due("one(" + v + ", " + what + ")", x.one(v, what), due[what]);
            for (int what : new int[] {-1, 4, MIN, MAX}) check.due("what " + what, x.one(v, what), -7);
        }
        for (int v : new int[] {-1, 8, MIN, MAX}) {
            for (int what : new int[] {-1, 0, 3, 4}) check.due("viewer " + v, x.one(v, what), -5);
        }
    }
}
