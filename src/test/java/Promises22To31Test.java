/** Promises 22 to 31, sentence by sentence: told offers, orders by lots, images. */
public final class Promises22To31Test {
    private static final int BAD = FlatToLet.BAD, STATE = FlatToLet.STATE;
    private static final int MIN = Integer.MIN_VALUE, MAX = Integer.MAX_VALUE;
    private static final long NO = FlatToLet.NO;
    private static final Check check = new Check();

    public static void main(String[] args) {
        judge();
        judgeMinds();
        judgeSheets();
        kinds();
        more();
        riches();
        rooms();
        laws();
        refusedAlike();
        film();
        drawn();
        odds();
        image();
        back();
        check.end();
    }

    /** Sheet 0 tells room 1; sheet 1 what is told; the one viewer (rich 200) offers rich and the hour. */
    private static FlatToLet telling(int... told) {
        FlatToLet x = Check.under("likes 1;keeps 1;offers rich+hour;");
        x.viewer(0, 20000);
        Check.sheet(x, 0, 2, 1);
        Check.sheet(x, 1, 2, told);
        return x;
    }

    private static void judge() {
        check.says("Promise 22", "were THE HOUR 0, 1, .. (12 at most): the first that is otherwise; -1: none.");
        int[] all = {200, 201, 202, 203, 204, 205, 206, 207, 208, 209, 210, 211};
        for (int n = 0; n <= 12; n++) {
            int[] told = java.util.Arrays.copyOf(all, n);
            check.due(n + " told truly", telling(told).judge(0, 1, 0), -1);
            for (int h = 0; h < n; h++) {
                for (int by : new int[] {-1, 1, 65536, MIN}) {
                    int[] one = told.clone();
                    one[h] += by;
                    check.due("otherwise at " + h, telling(one).judge(0, 1, 0), h);
                    one[n - 1] = -5;
                    check.due("the first is " + h, telling(one).judge(0, 1, 0), h);
                }
            }
        }
        FlatToLet x = telling(200, 0);
        x.hours(0);
        check.due("whatever the hour is", x.judge(0, 1, 0), 1);
        x.hours(11);
        check.due("whatever the hour is", x.judge(0, 1, 0), 1);
        check.due("the hour as it was", x.count(1), 11);
        Check.sheet(x, 1, 2, 0, 0, 0);
        Check.sheet(x, 0, 2);
        check.due("no room: nothing offered", x.judge(0, 1, 0), -1);
        Check.sheet(x, 1, 2, 0, 0, 1);
        check.due("no room: nothing offered", x.judge(0, 1, 0), 2);
        check.due("one sheet tells both", x.judge(0, 0, 0), -1);
    }

    /** What is in mind at each hour: a doctor's offer is that, if it is above 0. */
    private static void judgeMinds() {
        check.says("Promise 22", "what a VIEWER OFFERS by it, ALONE, were THE HOUR 0, 1, .. (12 at most)");
        String[] texts = {"likes hour-3;keeps 2;offers 0;", "likes 5;keeps hour-3;offers 0;", "likes hour-1;keeps hour-3;offers hour;",
            "likes 6-hour;keeps 7-hour;offers 0;", "likes 5;keeps 2;offers hour;"};
        int[][] due = {
            {0, 0, 0, 0, 4, 8, 12, 16, 20, 24, 28, 32},
            {0, 0, 0, 0, 10, 20, 30, 40, 50, 60, 70, 80},
            {0, 0, 0, 0, 6 + 4, 16 + 5, 30 + 6, 48 + 7, 70 + 8, 96 + 9, 126 + 10, 160 + 11},
            {2 * 42, 2 * 30, 2 * 20, 2 * 12, 2 * 6, 2 * 2, 0, 0, 0, 0, 0, 0},
            {20, 21, 22, 23, 24, 25, 26, 27, 28, 29, 30, 31},
        };
        FlatToLet x = new FlatToLet();
        x.viewer(30, 0);
        Check.sheet(x, 0, 2, 1);
        for (int t = 1; t <= 5; t++) Check.read(x, texts[t - 1]);
        for (int t = 5; t >= 1; t--) {
            x.force(t);
            Check.sheet(x, 1, 2, due[t - 1]);
            check.due("text " + t, x.judge(0, 1, 0), -1);
            check.due("text " + t + ": laws", x.laws(0, 1, 0), 1 << t);
            check.due("text " + t + ": kinds", x.kinds(0, 1, 0, 0), 0b001000);
            check.due("text " + t + ": another room's light", x.rooms(0, 1, 0, 0), 100);
            check.due("text " + t + ": however rich", x.riches(0, 1, 0, 0), 1000);
            check.due("text " + t + ": film", x.film(0, 2, 0), due[t - 1][6]);
            for (int h = 0; h < 12; h++) {
                x.cell(1, h, due[t - 1][h] + 1);
                check.due("text " + t + ", otherwise at " + h, x.judge(0, 1, 0), h);
                check.due("text " + t + ", laws", x.laws(0, 1, 0), 0);
                x.cell(1, h, due[t - 1][h]);
            }
        }
    }

    private static void judgeSheets() {
        check.says("Promise 22", "BAD: SHEETS; -11: one is missing; BAD: no TOUR, it tells more than 12; -5: no such VIEWER.");
        FlatToLet x = telling();
        for (int n : new int[] {0, 1, 11, 12}) {
            x.sheet(1, 2, n);
            check.due(n + " told", x.judge(0, 1, 0), n == 0 ? -1 : 0);
        }
        for (int n : new int[] {13, 14, 40}) {
            for (int sort = 0; sort < 3; sort++) {
                x.sheet(1, sort, n);
                check.due(n + " told", x.judge(0, 1, 0), BAD);
            }
        }
    }

    private static void kinds() {
        check.says("Promise 23", "KINDS (sort 0; bits 0 .. 5), MORE (1; bits 0 .. 9) by which, were they that one's, that would be -1.");
        FlatToLet x = telling(200, 201);
        check.due("viewer, couple, student", x.kinds(0, 1, 0, 0), 0b000111);
        Check.sheet(x, 1, 2, 202, 203);
        check.due("a doctor: 1 twice in mind", x.kinds(0, 1, 0, 0), 0b001000);
        Check.sheet(x, 1, 2, 100, 100);
        check.due("a pensioner", x.kinds(0, 1, 0, 0), 0b010000);
        Check.sheet(x, 1, 2, 0, 0);
        check.due("a cat", x.kinds(0, 1, 0, 0), 0b100000);
        Check.sheet(x, 1, 2, 1, 1);
        check.due("none", x.kinds(0, 1, 0, 0), 0);
        x.sheet(1, 2, 0);
        check.due("all", x.kinds(0, 1, 0, 0), 0b111111);
        check.due("the kind as it was", x.one(0, 2), 0);
        for (int kind = 0; kind < 6; kind++) {
            FlatToLet y = Check.under("likes 1;keeps 1;offers rich+hour;");
            y.viewer(10 * kind + 1, 20000);
            Check.sheet(y, 0, 2, 1);
            y.film(0, 1, 0);
            int due = kind < 3 ? 0b000111 : 1 << kind;
            check.due("kind " + kind + " by its film, whatever one is", y.kinds(0, 1, 0, 0), due);
        }
    }

    private static void more() {
        check.says("Promise 23", "MORE (1; bits 0 .. 9)");
        FlatToLet x = Check.under("likes 50-99*(room=1);keeps 1;offers rich;");
        x.viewer(30, 10000);
        Check.sheet(x, 0, 2, 0);
        for (int more = 0; more < 10; more++) {
            // a doctor's 50 less twice MORE, twice of the first
            Check.sheet(x, 1, 2, 200 - 4 * more);
            check.due("more " + more, x.kinds(0, 1, 0, 1), 1 << more);
        }
        Check.sheet(x, 1, 2, 200 - 40);
        check.due("more 10 is none", x.kinds(0, 1, 0, 1), 0);
        Check.sheet(x, 1, 2, 201);
        check.due("more -1 is none", x.kinds(0, 1, 0, 1), 0);
        x.sheet(1, 2, 0);
        check.due("all", x.kinds(0, 1, 0, 1), 1023);
        check.due("more as it was", x.one(0, 3), 0);
        check.says("Promise 23", "BAD, -11, BAD, -5 likewise; -7: sort.");
        for (int sort : new int[] {-1, 2, MIN, MAX}) check.due("sort " + sort, x.kinds(0, 1, 0, sort), -7);
    }

    private static void riches() {
        check.says("Promise 24", "RICH (0 .. 999) by which, were that one so, that would be -1: how many (what 0), the least (1; -1: none).");
        for (int rich : new int[] {0, 1, 500, 998}) {
            FlatToLet x = telling(rich, rich + 1);
            check.due("one", x.riches(0, 1, 0, 0), 1);
            check.due("which", x.riches(0, 1, 0, 1), rich);
            check.due("rich as it was", x.one(0, 0), 200);
        }
        FlatToLet x = telling(999, 999);
        check.due("999", x.riches(0, 1, 0, 0), 1);
        check.due("999", x.riches(0, 1, 0, 1), 999);
        Check.sheet(x, 1, 2, 1000);
        check.due("1000 is none", x.riches(0, 1, 0, 0), 0);
        check.due("1000 is none", x.riches(0, 1, 0, 1), -1);
        Check.sheet(x, 1, 2, -1);
        check.due("-1 is none", x.riches(0, 1, 0, 0), 0);
        check.due("-1 is none", x.riches(0, 1, 0, 1), -1);
        x.sheet(1, 2, 0);
        check.due("all", x.riches(0, 1, 0, 0), 1000);
        check.due("all", x.riches(0, 1, 0, 1), 0);
        Check.law(x, "likes 1;keeps 1;offers (rich=0 or rich=999)*7;");
        Check.sheet(x, 1, 2, 7);
        check.due("the first and the last", x.riches(0, 1, 0, 0), 2);
        check.due("the first", x.riches(0, 1, 0, 1), 0);
        Check.law(x, "likes 1;keeps 1;offers (not rich<300)*7;");
        check.due("from 300 on", x.riches(0, 1, 0, 0), 700);
        check.due("from 300 on", x.riches(0, 1, 0, 1), 300);
        // What is in mind may be by how rich one is.
        FlatToLet y = Check.under("likes rich-300;keeps 1;offers 7;");
        y.viewer(0, 0);
        Check.sheet(y, 0, 2, 1);
        Check.sheet(y, 1, 2, 7, 7);
        check.due("liked from 301 on", y.riches(0, 1, 0, 0), 699);
        check.due("liked from 301 on", y.riches(0, 1, 0, 1), 301);
        Check.law(y, "likes 1;keeps 4-rich;offers 7;");
        check.due("kept to 3", y.riches(0, 1, 0, 0), 4);
        check.due("kept to 3", y.riches(0, 1, 0, 1), 0);
        Check.law(y, "likes rich-hour-300;keeps rich-299;offers 7;");
        Check.sheet(y, 1, 2, 7, 0);
        check.due("liked at 0, not at 1", y.riches(0, 1, 0, 0), 1);
        check.due("liked at 0, not at 1", y.riches(0, 1, 0, 1), 301);
        check.says("Promise 24", "BAD, -11, BAD, -5 likewise; -7: what.");
        for (int what : new int[] {-1, 2, MIN, MAX}) check.due("what " + what, x.riches(0, 1, 0, what), -7);
    }

    private static void rooms() {
        check.says("Promise 25", "LIGHT (sort 0), DAMP (1) of that ROOM (0 .. 99) by which that would be -1: how many (what 0), the least (1; -1: none).");
        FlatToLet x = Check.under("likes light-damp;keeps 1;offers 0;");
        x.viewer(30, 0);
        x.sheet(0, 2, 1);
        for (int r = 0; r < 6; r++) {
            x.cell(0, 0, r);
            for (int light : new int[] {1, 50, 99}) {
                // a doctor offers twice of the first
                Check.sheet(x, 1, 2, 2 * light);
                check.due("light: one", x.rooms(0, 1, 0, 100 * r), 1);
                check.due("light: which", x.rooms(0, 1, 0, 100 * r + 1), light);
                check.due("damp: none", x.rooms(0, 1, 0, 100 * r + 10), 0);
                check.due("damp: none", x.rooms(0, 1, 0, 100 * r + 11), -1);
            }
            check.due("light as it was", x.told(r, 0), 0);
        }
        Check.sheet(x, 1, 2, 200);
        check.due("light 100 is none", x.rooms(0, 1, 0, 500), 0);
        check.due("light 100 is none", x.rooms(0, 1, 0, 501), -1);
        Check.sheet(x, 1, 2, 0);
        check.due("light 0", x.rooms(0, 1, 0, 500), 1);
        check.due("light 0", x.rooms(0, 1, 0, 501), 0);
        x.room(5, 0, 99);
        for (int damp : new int[] {0, 1, 98}) {
            Check.sheet(x, 1, 2, 2 * (99 - damp));
            check.due("damp: one", x.rooms(0, 1, 0, 510), 1);
            check.due("damp: which", x.rooms(0, 1, 0, 511), damp);
        }
        Check.sheet(x, 1, 2, 0);
        check.due("damp 99", x.rooms(0, 1, 0, 510), 1);
        check.due("damp 99", x.rooms(0, 1, 0, 511), 99);
        x.room(5, 0, 97);
        check.due("damp 97 .. 99", x.rooms(0, 1, 0, 510), 3);
        check.due("damp 97 .. 99", x.rooms(0, 1, 0, 511), 97);
        check.due("another room's: all", x.rooms(0, 1, 0, 410), 0);
        x.room(5, 0, 0);
        check.due("another room's: all", x.rooms(0, 1, 0, 410), 100);
        check.due("another room's: 0", x.rooms(0, 1, 0, 411), 0);
        check.due("damp as it was", x.told(5, 1), 0);
        check.says("Promise 25", "roomSortWhat: 100 times a ROOM, 10 times sort, and what.");
        for (int r = 0; r < 6; r++) {
            for (int sort = 0; sort < 10; sort++) {
                for (int what = 0; what < 10; what++) {
                    int all = 100 * r + 10 * sort + what;
                    boolean can = sort < 2 && what < 2;
                    // a new one in time: an object answers 512 calls
                    FlatToLet y = telling();
                    check.due("rooms by " + all, y.rooms(0, 1, 0, all), can ? what == 0 ? 100 : 0 : -7);
                }
            }
        }
        for (int all : new int[] {-1, -10, -100, 600, 601, 610, 611, 700, 1000, MIN, MAX}) {
            check.due("rooms by " + all, telling().rooms(0, 1, 0, all), -7);
        }
    }

    private static void laws() {
        check.says("Promise 26", "TEXTS (bits), were they THE LAW, by which that would be -1.");
        FlatToLet x = new FlatToLet();
        x.viewer(0, 20000);
        x.room(1, 0, 1);
        Check.sheet(x, 0, 2, 1);
        Check.sheet(x, 1, 2, 200);
        for (int t = 1; t <= 5; t++) {
            check.due("so many", x.laws(0, 1, 0), (1 << t) - 1);
            Check.read(x, "likes 1;keeps 1;offers rich;");
        }
        check.due("all six", x.laws(0, 1, 0), 63);
        Check.sheet(x, 1, 2, 201);
        check.due("none", x.laws(0, 1, 0), 0);
        x.sheet(1, 2, 0);
        check.due("all", x.laws(0, 1, 0), 63);
        FlatToLet y = new FlatToLet();
        y.viewer(0, 20000);
        Check.sheet(y, 0, 2, 1);
        for (int t = 1; t <= 5; t++) Check.read(y, "likes 1;keeps 1;offers " + t + ";");
        for (int t = 0; t <= 5; t++) {
            Check.sheet(y, 1, 2, t);
            check.due("text " + t + " alone", y.laws(0, 1, 0), 1 << t);
        }
        check.due("the law as it was", y.count(3), 0);
        y.force(4);
        check.due("whatever the law is", y.laws(0, 1, 0), 32);
    }

    private static void refusedAlike() {
        check.says("Promise 26", "BAD, -11, BAD, -5 likewise.");
        FlatToLet x = telling(200);
        for (int s : new int[] {-1, 4, MIN, MAX}) {
            alike(x, s, 1, 0, BAD);
            alike(x, 0, s, 0, BAD);
        }
        alike(x, 2, 1, 0, -11);
        alike(x, 0, 2, 0, -11);
        alike(x, 2, 2, 0, -11);
        Check.sheet(x, 2, 2, 1, 1);
        alike(x, 2, 1, 0, BAD);
        x.sheet(2, 2, 13);
        alike(x, 0, 2, 0, BAD);
        for (int v : new int[] {-1, 1, 8, MIN, MAX}) alike(x, 0, 1, v, -5);
        FlatToLet nobody = new FlatToLet();
        nobody.sheet(0, 2, 0);
        alike(nobody, 0, 0, 0, -5);
    }

    private static void alike(FlatToLet x, int s, int told, int v, int refusal) {
        String of = "(" + s + ", " + told + ", " + v + ")";
        check.due("judge" + of, x.judge(s, told, v), refusal);
        check.due("kinds" + of, x.kinds(s, told, v, 0), refusal);
        check.due("riches" + of, x.riches(s, told, v, 0), refusal);
        check.due("rooms" + of, x.rooms(s, told, v, 0), refusal);
        check.due("laws" + of, x.laws(s, told, v), refusal);
    }

    private static void film() {
        check.says("Promise 27", "SHEET told truly becomes that for all 12 hours (ints): what is OFFERED at THE HOUR.");
        for (int h = 0; h < 12; h++) {
            FlatToLet x = telling(200);
            x.hours(h);
            for (int sort = -1; sort < 3; sort++) {
                x.sheet(1, sort, 7);
                check.due("film at " + h, x.film(0, 1, 0), 200 + h);
                check.due("twelve", x.copy(1, 0, 1, 0, 12), 12);
                check.due("not thirteen", x.copy(1, 0, 1, 0, 13), -12);
                check.due("ints", x.viewersBy(1, 2, 0, 0), 0);
                check.due("truly", x.judge(0, 1, 0), -1);
                check.due("by one so rich alone", x.riches(0, 1, 0, 0), 1);
            }
            x.cell(1, h, 0);
            check.due("otherwise then", x.judge(0, 1, 0), h);
            check.due("the hour as it was", x.count(1), h);
        }
        FlatToLet y = telling(200);
        y.sheet(1, 2, 40);
        y.film(0, 1, 0);
        check.due("forty become twelve", y.copy(1, 0, 1, 0, 13), -12);
        Check.law(y, "likes 99;keeps 9;offers 999;");
        y.viewer(30, 0);
        Check.sheet(y, 0, 2, 1, 2, 3, 4, 5);
        y.sheet(1, 0, 1);
        check.due("more than bytes hold", y.film(0, 1, 1), 999 + 6 * 891);
        check.due("truly", y.judge(0, 1, 1), -1);
        Check.sheet(y, 0, 2);
        check.due("no room", y.film(0, 1, 1), 0);
        check.due("truly", y.judge(0, 1, 1), -1);
        check.says("Promise 27", "BAD: SHEETS, one and the same; -11: s is missing; BAD: no TOUR; -5: no such VIEWER.");
        FlatToLet z = telling(1, 2, 3);
        for (int s : new int[] {-1, 4, MIN, MAX}) {
            check.due("s " + s, z.film(s, 1, 0), BAD);
            check.due("told " + s, z.film(0, s, 0), BAD);
            check.due("ahead of missing", z.film(2, s, 0), BAD);
        }
        check.due("one and the same", z.film(0, 0, 0), BAD);
        check.due("one and the same, missing", z.film(2, 2, 0), BAD);
        check.due("missing", z.film(2, 1, 0), -11);
        check.due("missing, ahead of nobody", z.film(2, 1, 1), -11);
        check.due("told is missing", z.film(0, 2, 0), 206);
        Check.sheet(z, 3, 2, 1, 1);
        check.due("no tour", z.film(3, 1, 0), BAD);
        check.due("no tour, ahead of nobody", z.film(3, 1, 1), BAD);
        for (int v : new int[] {-1, 1, 8, MIN, MAX}) check.due("viewer " + v, z.film(0, 1, v), -5);
        check.due("told as it was", z.copy(1, 0, 1, 0, 3), 3);
        check.due("told as it was", z.copy(1, 0, 1, 0, 4), -12);
        for (int told = 1; told <= 3; told++) {
            z.put(0, 0, told);
            Check.sheet(z, 2, 2, 0);
            z.copy(1, told - 1, 2, 0, 1);
            check.due("its numbers as they were", z.judge(0, 2, 0), -1);
        }
    }

    private static void drawn() {
        check.says("Promise 28", "ORDERS by a SEED: digits (what 0), MIND of a VIEWER by it, ALONE (1), OFFER (2). -1000007: none such.");
        FlatToLet x = Check.under("likes room+1;keeps 1;offers rich+crowd;");
        check.due("nobody", x.drawn(0, 0, 0), -1000007);
        x.viewer(10, 30000);
        x.viewer(29, 40000);
        check.due("0: 146352", x.drawn(0, 0, 0), 146352);
        check.due("a couple: 21, once more 1", x.drawn(0, 0, 1), 22);
        check.due("a student: 21, nine times more 2", x.drawn(0, 1, 1), 39);
        check.due("offer", x.drawn(0, 0, 2), 301);
        check.due("offer", x.drawn(0, 1, 2), 401);
        check.due("99999 is one", x.drawn(99999, 1, 2), 401);
        for (int seed : new int[] {-1, 100000, MIN, MAX}) check.due("seed " + seed, x.drawn(seed, 0, 0), -1000007);
        for (int v : new int[] {-1, 2, 8, MIN, MAX}) check.due("viewer " + v, x.drawn(0, v, 0), -1000007);
        for (int what : new int[] {-1, 3, MIN, MAX}) check.due("what " + what, x.drawn(0, 0, what), -1000007);
    }

    /** A couple offers so much by the order of a seed: of the first room twice. */
    private static FlatToLet lots() {
        FlatToLet x = Check.under("likes 1-2*(room=0);keeps 1;offers 0;");
        x.viewer(0, 0);
        x.viewer(30, 0);
        return x;
    }

    private static void odds(FlatToLet x, int seed, int seeds, int vLeast, long above, long below) {
        String of = "(" + seed + ", " + seeds + ", " + vLeast + ", ";
        check.due("odds" + of + "0)", x.odds(seed, seeds, vLeast, 0), above);
        check.due("odds" + of + "1)", x.odds(seed, seeds, vLeast, 1), below);
    }

    private static void odds() {
        check.says("Promise 29", "By how many of so many (1 .. 40) seeds, SEED and each 1 more (they may pass 99999), that one OFFERS least (0 .. 9999) or more by ORDERS: part 0 above, 1 below the line, in lowest terms.");
        FlatToLet x = lots();
        // The doctor's mind is 5 and once more 1, but for the kitchen as the first: 5 - 2 - 2 = 1, or 5 - 2 + 1 = 4.
        for (int seed : new int[] {0, 17, 99961, 99999}) {
            for (int seeds : new int[] {1, 2, 39, 40}) {
                int first = 0;
                for (int k = 0; k < seeds; k++) if (firstRoom(seed + k) == 0) first++;
                int others = seeds - first;
                int common = java.math.BigInteger.valueOf(others).gcd(java.math.BigInteger.valueOf(seeds)).intValue();
                odds(x, seed, seeds, 10000 + 4, others / common, seeds / common);
                odds(x, seed, seeds, 10000 + 1, 1, 1);
                odds(x, seed, seeds, 10000 + 5, 0, 1);
                odds(x, seed, seeds, 10000, 1, 1);
                odds(x, seed, seeds, 19999, 0, 1);
                odds(x, seed, seeds, 0, 1, 1);
                odds(x, seed, seeds, 1, 0, 1);
            }
        }
        check.says("Promise 29", "NO: none such.");
        for (int part = 0; part < 2; part++) {
            for (int seed : new int[] {-1, 100000, MIN, MAX}) check.due("seed " + seed, x.odds(seed, 1, 0, part), NO);
            for (int seeds : new int[] {-1, 0, 41, MIN, MAX}) check.due("seeds " + seeds, x.odds(0, seeds, 0, part), NO);
            for (int v : new int[] {-1, -9999, -10000, 20000, 29999, 80000, MIN, MAX}) check.due("vLeast " + v, x.odds(0, 1, v, part), NO);
        }
        for (int part : new int[] {-1, 2, MIN, MAX}) check.due("part " + part, x.odds(0, 1, 0, part), NO);
        check.due("nobody", new FlatToLet().odds(0, 1, 0, 0), NO);
        FlatToLet full = new FlatToLet();
        for (int v = 0; v < 8; v++) full.viewer(0, 0);
        odds(full, 0, 1, 70000, 1, 1);
        odds(full, 0, 1, 79999, 0, 1);
        check.due("a ninth", full.odds(0, 1, 80000, 0), NO);
        FlatToLet last = Check.under("likes 1;keeps 1;offers rich;");
        for (int v = 0; v < 8; v++) last.viewer(0, v % 2 * 900);
        for (int v = 0; v < 8; v++) {
            odds(last, 0, 3, 10000 * v, 1, 1);
            for (int least : new int[] {1, 2, 8, 9}) odds(last, 0, 3, 10000 * v + least, v % 2, 1);
            for (int least : new int[] {10, 9998, 9999}) odds(last, 0, 3, 10000 * v + least, 0, 1);
        }
    }

    /** The first of the order by a seed: by each lot the room at place 0 may go, if the lot's place is 0. */
    private static int firstRoom(int seed) {
        long lot = seed + 1;
        int[] rooms = {0, 1, 2, 3, 4, 5};
        for (int k = 5; k >= 1; k--) {
            lot = lot * 48271 % 2147483647;
            int place = (int) (lot % (k + 1));
            int room = rooms[place];
            rooms[place] = rooms[k];
            rooms[k] = room;
        }
        return rooms[0];
    }

    private static void image() {
        check.says("Promise 30", "AN IMAGE is kept: how many VIEWERS.");
        FlatToLet x = new FlatToLet();
        for (int v = 0; v <= 8; v++) {
            check.due("image", x.image(), v);
            check.due("nothing changed", x.count(0), v);
            check.due("viewer", x.viewer(v, 100 * v), v < 8 ? v : FlatToLet.FULL);
            check.due("back to the last image", x.back(), v);
            if (v < 8) x.viewer(v, 100 * v);
        }
        check.due("eight", x.count(0), 8);
    }

    private static void back() {
        check.says("Promise 31", "VIEWERS that came since are none: how many there are. STATE: there is none.");
        FlatToLet x = new FlatToLet();
        check.due("no image", x.back(), STATE);
        x.viewer(12, 34056);
        x.hours(2);
        check.due("no image still", x.back(), STATE);
        check.due("nothing changed", x.count(1), 2);
        x.image();
        for (int v = 1; v < 8; v++) x.viewer(30 + v, 100 * v + v);
        check.due("full", x.viewer(0, 0), FlatToLet.FULL);
        check.due("back", x.back(), 1);
        check.due("how many", x.count(0), 1);
        for (int v = 1; v < 8; v++) {
            check.due("none", x.one(v, 0), -5);
            check.due("none to be taken", x.taken(v, 0), -11);
            check.due("none's quiet", x.taken(8 + v, 6), -11);
        }
        check.due("who was", x.one(0, 3), 2);
        check.due("another comes", x.viewer(45, 67089), 1);
        int[] due = {670, 89, 4, 5};
        for (int what = 0; what < 4; what++) check.due("as told", x.one(1, what), due[what]);
        check.due("back once more", x.back(), 1);
        check.due("and once more", x.back(), 1);
        FlatToLet y = new FlatToLet();
        y.image();
        y.viewer(0, 0);
        check.due("back to none", y.back(), 0);
        check.due("none", y.count(0), 0);
    }
}
