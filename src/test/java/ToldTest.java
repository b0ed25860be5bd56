/** Promises 22 to 27: told offers. */
public final class ToldTest {
    private static final int MIN = Integer.MIN_VALUE, MAX = Integer.MAX_VALUE;
    private static final Check check = new Check();

    public static void main(String[] args) {
        film();
        judge();
        kinds();
        riches();
        rooms();
        laws();
        refusals();
        check.end();
    }

    /** One viewer, rich 200, a tour of room 0 in sheet 0; the law offers the hour more. */
    private static FlatToLet flat() {
        FlatToLet x = new FlatToLet();
        Check.lights(x, 60, 30, 80, 20, 50, 5);
        Check.damps(x, 10, 40, 0, 60, 5, 70);
        Check.sheet(x, 0, 2, 0);
        x.viewer(3, 20050);
        Check.law(x, "likes light - damp ; keeps 1 ; offers rich + hour ;");
        return x;
    }

    private static void film() {
        FlatToLet x = flat();
        check.due("film at 6", x.film(0, 1, 0), 206);
        check.due("twelve", x.cell(1, 11, 211), 1);
        check.due("not thirteen", x.cell(1, 12, 0), -12);
        check.due("as it was filmed", x.judge(0, 1, 0), -1);
        x.sheet(2, 2, 12);
        check.due("ints", x.copy(1, 0, 2, 0, 12), 12);
        x.hours(11);
        check.due("film at 11", x.film(0, 1, 0), 211);
        check.due("film over bytes", x.film(0, 2, 0), 211);
        check.due("the hour is as it was", x.count(1), 11);
        for (int h = 0; h < 12; h++) {
            x.cell(1, h, -1);
            check.due("told by itself at " + h, x.judge(0, 1, 0), h);
            x.cell(1, h, 200 + h);
        }
        x.sheet(2, 0, 40);
        check.due("film over forty bytes", x.film(0, 2, 0), 211);
        check.due("twelve of them", x.cell(2, 12, 0), -12);
        check.due("judged", x.judge(0, 2, 0), -1);
        Check.law(x, "likes light - damp ; keeps 1 ; offers rich + crowd ;");
        check.due("alone", x.film(0, 1, 0), 201);
        for (int s : new int[] {-1, 4, MIN, MAX}) {
            check.due("film, s", x.film(s, 1, 0), -2);
            check.due("film, told", x.film(0, s, 0), -2);
            check.due("film, told, ahead of missing", x.film(3, s, 9), -2);
        }
        check.due("one and the same", x.film(0, 0, 0), -2);
        check.due("one and the same, missing", x.film(3, 3, 0), -2);
        check.due("missing", x.film(3, 1, 9), -11);
        Check.sheet(x, 3, 2, 1, 1);
        check.due("no tour", x.film(3, 1, 9), -2);
        for (int v : new int[] {-1, 1, MIN, MAX}) check.due("no viewer", x.film(0, 1, v), -5);
        check.due("refused, told as it was", x.judge(0, 1, 0), -1);
    }

    private static void judge() {
        FlatToLet x = flat();
        x.sheet(1, 2, 0);
        check.due("nothing told", x.judge(0, 1, 0), -1);
        Check.sheet(x, 1, 2, 200, 201, 202);
        check.due("three", x.judge(0, 1, 0), -1);
        Check.sheet(x, 1, 2, 200, 201, 202, 204, 0);
        check.due("the first that is otherwise", x.judge(0, 1, 0), 3);
        Check.sheet(x, 1, 2, 199);
        check.due("at once", x.judge(0, 1, 0), 0);
        x.put(0, 0, 100);
        Check.sheet(x, 1, 0, 100, 101, 102, 103, 104, 105, 106, 107, 108, 109, 110, 111);
        check.due("bytes, all twelve", x.judge(0, 1, 0), -1);
        x.cell(1, 11, 112);
        check.due("the last", x.judge(0, 1, 0), 11);
        x.hours(0);
        check.due("the hour as it is does not matter", x.judge(0, 1, 0), 11);
        check.due("the hour is as it was", x.count(1), 0);
        x.put(0, 0, 200);
        Check.sheet(x, 1, 1, 200, 65536 + 201);
        check.due("shorts", x.judge(0, 1, 0), -1);
        Check.sheet(x, 1, 0, 200);
        check.due("byte 200 is -56", x.judge(0, 1, 0), 0);
        Check.sheet(x, 0, 2);
        check.due("one sheet tells both", x.judge(0, 0, 0), -1);
        Check.sheet(x, 0, 2, 3, 1);
        check.due("one sheet tells both, otherwise", x.judge(0, 0, 0), 0);
        Check.sheet(x, 1, 2, 0, 0, 0, 0, 0, 0, 0, 0, 0, 0, 0, 0);
        check.due("nothing in mind, nothing offered", x.judge(0, 1, 0), -1);
    }

    private static void kinds() {
        FlatToLet x = flat();
        x.film(0, 1, 0);
        check.due("kinds of the film", x.kinds(0, 1, 0, 0), 0b000111);
        check.due("more of the film", x.kinds(0, 1, 0, 1), 1023);
        check.due("the kind is as it was", x.one(0, 2), 0);
        check.due("the more is as it was", x.one(0, 3), 3);
        Check.sheet(x, 1, 2, 100);
        check.due("half: a pensioner", x.kinds(0, 1, 0, 0), 0b010000);
        check.due("half: no viewer of any more", x.kinds(0, 1, 0, 1), 0);
        Check.sheet(x, 1, 2, 0, 0);
        check.due("nothing: a cat", x.kinds(0, 1, 0, 0), 0b100000);
        // a doctor of more 3 has 50 less 6, twice of the first, in mind
        Check.sheet(x, 1, 2, 288);
        check.due("a doctor", x.kinds(0, 1, 0, 0), 0b001000);
        x.viewer(30, 20000);
        check.due("of more 3", x.kinds(0, 1, 1, 1), 1 << 3);
        Check.sheet(x, 1, 2, 288, 288);
        check.due("of none", x.kinds(0, 1, 1, 1), 0);
        x.sheet(1, 2, 0);
        check.due("nothing told: all", x.kinds(0, 1, 1, 0), 63);
        check.due("nothing told: all", x.kinds(0, 1, 1, 1), 1023);
        Check.sheet(x, 0, 2, 3);
        Check.sheet(x, 1, 2, 0);
        check.due("nothing in mind: all", x.kinds(0, 1, 0, 0), 63);
    }

    private static void riches() {
        FlatToLet x = flat();
        x.film(0, 1, 0);
        check.due("one", x.riches(0, 1, 0, 0), 1);
        check.due("which", x.riches(0, 1, 0, 1), 200);
        check.due("rich as it was", x.one(0, 0), 200);
        x.put(0, 0, 7);
        check.due("however rich one is", x.riches(0, 1, 0, 1), 200);
        Check.sheet(x, 1, 2, 999);
        check.due("999 at 0", x.riches(0, 1, 0, 1), 999);
        Check.sheet(x, 1, 2, 999, 999);
        check.due("999 at 0, 1: 998 is too little", x.riches(0, 1, 0, 0), 1);
        Check.sheet(x, 1, 2, 1000);
        check.due("none", x.riches(0, 1, 0, 0), 0);
        check.due("none, the least", x.riches(0, 1, 0, 1), -1);
        x.sheet(1, 2, 0);
        check.due("nothing told: all", x.riches(0, 1, 0, 0), 1000);
        check.due("nothing told: 0", x.riches(0, 1, 0, 1), 0);
        x.viewer(49, 20000);
        Check.sheet(x, 1, 2, 150);
        check.due("half, cut: two", x.riches(0, 1, 1, 0), 2);
        check.due("half, cut: the least", x.riches(0, 1, 1, 1), 300);
        Check.sheet(x, 1, 2, 150, 150);
        check.due("half, cut, at two hours", x.riches(0, 1, 1, 0), 1);
        // who is so rich likes it no more
        Check.law(x, "likes 500 - rich + hour ; keeps 1 ; offers 5 ;");
        Check.sheet(x, 1, 2, 0, 5);
        check.due("liked at 1, not at 0", x.riches(0, 1, 0, 0), 1);
        check.due("liked at 1, not at 0", x.riches(0, 1, 0, 1), 500);
        Check.sheet(x, 1, 2, 0, 0);
        check.due("liked at neither", x.riches(0, 1, 0, 0), 499);
        check.due("liked at neither", x.riches(0, 1, 0, 1), 501);
        Check.law(x, "likes 1 ; keeps 6 - rich ; offers 5 ;");
        Check.sheet(x, 1, 2, 5, 5);
        check.due("kept", x.riches(0, 1, 0, 0), 6);
        check.due("rich as it was", x.one(0, 0), 7);
    }

    private static void rooms() {
        FlatToLet x = flat();
        x.film(0, 1, 0);
        check.due("light of 0", x.rooms(0, 1, 0, 0), 89);
        check.due("light of 0, the least", x.rooms(0, 1, 0, 1), 11);
        check.due("damp of 0", x.rooms(0, 1, 0, 10), 60);
        check.due("damp of 0, the least", x.rooms(0, 1, 0, 11), 0);
        check.due("light of 5, not of the tour", x.rooms(0, 1, 0, 500), 100);
        check.due("light of 5, the least", x.rooms(0, 1, 0, 501), 0);
        check.due("damp of 5", x.rooms(0, 1, 0, 510), 100);
        check.due("light as it was", x.told(0, 0), 60);
        check.due("damp as it was", x.told(0, 1), 10);
        Check.sheet(x, 1, 2, 0);
        check.due("damp, not liked", x.rooms(0, 1, 0, 10), 40);
        check.due("damp, not liked, the least", x.rooms(0, 1, 0, 11), 60);
        Check.sheet(x, 1, 2, 1);
        check.due("none", x.rooms(0, 1, 0, 0), 0);
        check.due("none, the least", x.rooms(0, 1, 0, 1), -1);
        Check.sheet(x, 0, 2, 2, 3);
        Check.sheet(x, 1, 2, 0);
        check.due("light of 3", x.rooms(0, 1, 0, 300), 0);
        check.due("damp of 3", x.rooms(0, 1, 0, 310), 0);
        x.room(2, 0, 30);
        check.due("light of 3, -10 still", x.rooms(0, 1, 0, 300), 31);
        check.due("damp of 3, -10 still", x.rooms(0, 1, 0, 311), 50);
        for (int bad : new int[] {-1, 2, 9, 12, 20, 21, 99, 102, 519, 520, 599, 600, 601, 1000, MIN, MAX}) {
            check.due("roomSortWhat " + bad, x.rooms(0, 1, 0, bad), -7);
        }
    }

    private static void laws() {
        FlatToLet x = flat();
        x.film(0, 1, 0);
        check.due("the law alone", x.laws(0, 1, 0), 2);
        Check.read(x, "likes 1 ; keeps 1 ; offers hour + rich ;");
        Check.read(x, "likes 1 - rich ; keeps 1 ; offers hour + rich ;");
        check.due("and another", x.laws(0, 1, 0), 0b0110);
        check.due("the law is as it was", x.count(3), 1);
        Check.sheet(x, 1, 2, 200);
        check.due("at 0", x.laws(0, 1, 0), 0b0111);
        Check.sheet(x, 1, 2, 0);
        check.due("nothing", x.laws(0, 1, 0), 0b1000);
        x.sheet(1, 2, 0);
        check.due("nothing told: all", x.laws(0, 1, 0), 0b1111);
        Check.read(x, "likes 1 ; keeps 1 ; offers 1 ;");
        Check.read(x, "likes 1 ; keeps 1 ; offers 1 ;");
        check.due("all six", x.laws(0, 1, 0), 63);
    }

    private static void refusals() {
        FlatToLet x = flat();
        Check.sheet(x, 1, 2, 200);
        Check.sheet(x, 2, 2, 1, 1);
        for (int s : new int[] {-1, 4, MIN, MAX}) {
            refused(x, s, 1, 0, -2);
            refused(x, 0, s, 0, -2);
            refused(x, 3, s, 9, -2);
            refused(x, s, 3, 9, -2);
        }
        refused(x, 3, 1, 9, -11);
        refused(x, 0, 3, 9, -11);
        refused(x, 2, 3, 9, -11);
        refused(x, 2, 1, 9, -2);
        x.sheet(1, 0, 13);
        refused(x, 0, 1, 9, -2);
        x.sheet(1, 0, 40);
        refused(x, 0, 1, 0, -2);
        x.sheet(1, 0, 12);
        for (int v : new int[] {-1, 1, MIN, MAX}) refused(x, 0, 1, v, -5);
        for (int bad : new int[] {-1, 2, MIN, MAX}) {
            check.due("kinds, sort", x.kinds(0, 1, 0, bad), -7);
            check.due("riches, what", x.riches(0, 1, 0, bad), -7);
        }
    }

    /** This is refused ahead of what else is not as told. */
    private static void refused(FlatToLet x, int s, int told, int v, int refusal) {
        String of = "(" + s + ", " + told + ", " + v + ")";
        check.due("judge" + of, x.judge(s, told, v), refusal);
        check.due("kinds" + of, x.kinds(s, told, v, 9), refusal);
        check.due("riches" + of, x.riches(s, told, v, 9), refusal);
        check.due("rooms" + of, x.rooms(s, told, v, -9), refusal);
        check.due("laws" + of, x.laws(s, told, v), refusal);
    }
}
