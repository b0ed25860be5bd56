/** Promises 13, 14: what each kind likes, keeps and offers by a tour; who offers most. */
public final class TourTest {
    private static final int MIN = Integer.MIN_VALUE, MAX = Integer.MAX_VALUE;
    private static final Check check = new Check();

    public static void main(String[] args) {
        kinds();
        bounds();
        texts();
        sheets();
        shown();
        shownRefused();
        check.end();
    }

    /** Liked by the first text: 50, -10, 80, -40, 45, -65. */
    private static FlatToLet flat() {
        FlatToLet x = new FlatToLet();
        Check.lights(x, 60, 30, 80, 20, 50, 5);
        Check.damps(x, 10, 40, 0, 60, 5, 70);
        return x;
    }

    private static int tour(FlatToLet x, int v, int crowd, int what, int... rooms) {
        Check.sheet(x, 3, 2, rooms);
        return x.tour(3, v, crowd, what);
    }

    private static void kinds() {
        FlatToLet x = flat();
        int one = x.viewer(9, 20000), couple = x.viewer(14, 20000), student = x.viewer(22, 20000);
        int doctor = x.viewer(36, 20000), pensioner = x.viewer(43, 40100), cat = x.viewer(57, 20000);

        check.due("viewer, mind", tour(x, one, 1, 0, 0, 1, 2), 120);
        check.due("viewer, offer", tour(x, one, 1, 1, 0, 1, 2), 200);
        check.due("viewer, mind below 0", tour(x, one, 1, 0, 3), -40);
        check.due("viewer, no offer", tour(x, one, 8, 1, 3), 0);
        check.due("viewer, last", tour(x, one, 1, 2, 0, 3), -40);
        check.due("viewer, no room", tour(x, one, 1, 0), 0);
        check.due("viewer, no room, offer", tour(x, one, 8, 1), 0);
        check.due("viewer, no room, last", tour(x, one, 1, 2), 0);

        check.due("couple, twice of the first", tour(x, couple, 1, 0, 0, 1), 74);
        check.due("couple, the other way", tour(x, couple, 1, 0, 1, 0), 22);
        check.due("couple, one room", tour(x, couple, 1, 0, 0), 84);
        check.due("couple, room 0", tour(x, couple, 1, 2, 1, 0), 42);
        check.due("couple, offer", tour(x, couple, 8, 1, 0, 1), 200);
        check.due("couple, mind 0", tour(x, couple, 1, 1), 0);

        check.due("student, more of the last", tour(x, student, 1, 0, 0, 1), 20);
        check.due("student, the other way", tour(x, student, 1, 0, 1, 0), 140);
        check.due("student, one room", tour(x, student, 1, 0, 0), 150);
        check.due("student, crowd 2", tour(x, student, 2, 1, 0), 200);
        check.due("student, crowd 3", tour(x, student, 3, 1, 0), 230);
        check.due("student, crowd 8", tour(x, student, 8, 1, 0), 280);
        check.due("student, nothing in mind", tour(x, student, 4, 1, 3), 40);
        check.due("student, room 0", tour(x, student, 1, 2, 0), 50);

        check.due("doctor", tour(x, doctor, 1, 0, 0, 1), 56);
        check.due("doctor, offer", tour(x, doctor, 1, 1, 0, 1), 256);
        check.due("doctor, the other way", tour(x, doctor, 1, 0, 1, 0), -2);
        check.due("doctor, offer 0 at least", tour(x, doctor, 8, 1, 1, 0), 0);
        check.due("doctor, room 0", tour(x, doctor, 1, 2, 0), 38);
        check.due("doctor, twice below 0", tour(x, doctor, 1, 2, 1), -20);
        check.due("doctor, the bound", tour(x, doctor, 1, 2, 5), -99);

        check.due("pensioner", tour(x, pensioner, 1, 0, 0, 1), 10);
        check.due("pensioner, the other way", tour(x, pensioner, 1, 0, 1, 0), 160);
        check.due("pensioner, one room below 0", tour(x, pensioner, 1, 0, 1), -40);
        check.due("pensioner, half, cut", tour(x, pensioner, 1, 1, 0), 200);
        check.due("pensioner, crowd 3", tour(x, pensioner, 3, 1, 0), 215);
        check.due("pensioner, crowd 3, nothing in mind", tour(x, pensioner, 3, 1, 1), 15);

        check.due("cat, its room", tour(x, cat, 1, 0, 0, 1, 2), 99);
        check.due("cat, its room last", tour(x, cat, 1, 2, 0, 1), 99);
        check.due("cat, another last", tour(x, cat, 1, 2, 1, 0), 0);
        check.due("cat, not its room", tour(x, cat, 1, 0, 0, 2, 3, 4, 5), 0);
        check.due("cat, offer", tour(x, cat, 8, 1, 1), 0);
        int other = x.viewer(59, 20000);
        check.due("cat of more 9, room 3", tour(x, other, 1, 0, 0, 1, 3), 99);
        check.due("cat of more 9, not room 1", tour(x, other, 1, 0, 0, 1, 2), 0);
    }

    private static void bounds() {
        FlatToLet x = new FlatToLet();
        int couple = x.viewer(19, 20000), doctor = x.viewer(39, 20000), pensioner = x.viewer(49, 0);
        x.room(0, 1, 95);
        check.due("couple, -95 less 18", tour(x, couple, 1, 2, 0), -99);
        check.due("doctor, twice that", tour(x, doctor, 1, 2, 0), -99);
        x.room(0, 1, 0);
        x.room(0, 0, 10);
        check.due("couple, 10 less 18", tour(x, couple, 1, 2, 0), -8);
        check.due("doctor, 10 less 18, the text not below 0", tour(x, doctor, 1, 2, 0), -8);
        x.room(0, 0, 0);
        check.due("couple, 0 less 18", tour(x, couple, 1, 2, 0), -18);
        check.due("doctor, 0 less 18, the text not below 0", tour(x, doctor, 1, 2, 0), -18);
        check.due("pensioner of 0: as a student", tour(x, pensioner, 1, 0, 0), 0);
        x.room(1, 0, 10);
        x.room(1, 1, 11);
        check.due("pensioner of -1: 3 more, not the last's", tour(x, pensioner, 1, 0, 1), -4);
        Check.law(x, "likes 99 ; keeps 99 ; offers 999 ;");
        check.due("couple of 9 keeps 18", tour(x, couple, 1, 0, 1), 1782);
        check.due("doctor offers above 999", tour(x, doctor, 1, 1, 1, 2, 3, 4, 5), 999 + 99 * 9 * 6);
        check.due("couple of 99 in room 0", tour(x, couple, 1, 2, 0), 81);
    }

    private static void texts() {
        FlatToLet x = new FlatToLet();
        x.viewer(0, 1200);
        x.viewer(0, 30000);
        Check.law(x, "likes room*10+hour+crowd+(rich=300) ; keeps 1+room ; offers rich+crowd*100 ;");
        check.due("mind", tour(x, 0, 3, 0, 2, 1), 29 * 3 + 19 * 2);
        check.due("mind of the other", tour(x, 1, 3, 0, 2, 1), 30 * 3 + 20 * 2);
        check.due("offer", tour(x, 0, 3, 1, 2, 1), 312);
        check.due("last", tour(x, 0, 8, 2, 2, 1), 24);
        x.hours(0);
        check.due("last, at another hour", tour(x, 0, 8, 2, 2, 1), 18);
        x.put(0, 0, 300);
        check.due("last, richer", tour(x, 0, 8, 2, 2, 1), 19);
        Check.lights(x, 9, 9, 9, 9, 9, 9);
        Check.damps(x, 8, 8, 8, 8, 8, 8);
        Check.law(x, "likes 1 ; keeps 1 ; offers 1+light ;");
        check.due("offers see no light", tour(x, 0, 8, 1, 2, 1), 1);
        Check.law(x, "likes 1 ; keeps 1 ; offers 1+damp ;");
        check.due("offers see no damp", tour(x, 0, 8, 1, 2, 1), 1);
        Check.law(x, "likes 1 ; keeps 1 ; offers 1+room ;");
        check.due("offers see no room", tour(x, 0, 8, 1, 2, 1), 1);
        Check.lights(x, 0, 0, 0, 0, 0, 0);
        Check.damps(x, 0, 0, 0, 0, 0, 0);
        x.force(0);
        check.due("last, by the first text", tour(x, 0, 8, 2, 2, 1), 0);
    }

    private static void sheets() {
        FlatToLet x = flat();
        x.viewer(0, 20000);
        for (int sort = 0; sort < 3; sort++) {
            Check.sheet(x, sort, sort, 5, 4, 3, 2, 1, 0);
            check.due("all rooms, sort " + sort, x.tour(sort, 0, 1, 0), 60);
        }
        for (int s : new int[] {-1, 4, MIN, MAX}) check.due("sheet " + s, x.tour(s, 5, 0, 9), -1000002);
        check.due("missing", x.tour(3, 5, 0, 9), -1000011);
        int[][] none = {{0, 0}, {1, 2, 1}, {6}, {-1}, {0, 1, 2, 3, 4, 5, 0}, {0, 1, 2, 3, 4, 5, 6}, {MAX}, {MIN}};
        for (int[] rooms : none) {
            check.due("no tour", tour(x, 0, 1, 0, rooms), -1000002);
            check.due("no tour, nor all else", tour(x, 9, 0, 9, rooms), -1000002);
        }
        Check.sheet(x, 0, 0, 256, 257);
        check.due("bytes 256, 257 are 0, 1", x.tour(0, 0, 1, 0), 40);
        Check.sheet(x, 0, 0, 255);
        check.due("byte 255 is -1", x.tour(0, 0, 1, 0), -1000002);
        Check.sheet(x, 1, 1, 65536, 65538);
        check.due("shorts 65536, 65538 are 0, 2", x.tour(1, 0, 1, 0), 130);
        for (int bad : new int[] {-1, 9, MIN, MAX}) {
            check.due("viewer", x.tour(1, bad, 1, 0), -1000007);
            check.due("crowd", x.tour(1, 0, bad, 0), -1000007);
            check.due("what", x.tour(1, 0, 1, bad), -1000007);
        }
        check.due("viewer 1", x.tour(1, 1, 1, 0), -1000007);
        check.due("crowd 0", x.tour(1, 0, 0, 0), -1000007);
        check.due("what 3", x.tour(1, 0, 1, 3), -1000007);
    }

    private static void shown() {
        FlatToLet x = flat();
        x.viewer(22, 10000);   // student, rich 100
        x.viewer(0, 12500);    // viewer, rich 125
        x.viewer(57, 99900);   // cat
        x.viewer(10, 12500);   // couple, rich 125
        Check.sheet(x, 0, 2, 0, 2);
        int[][] due = {
            {0, -1, 0, 0},
            {1, 0, 100, 0},
            {2, 1, 125, 0},
            {3, 1, 125, 100},
            {4, 2, 0, 0},
            {5, 0, 100, 0},
            {7, 0, 130, 125},
            {10, 1, 125, 125},
            {11, 0, 130, 125},
            {12, 3, 125, 0},
            {15, 0, 140, 125},
        };
        for (int[] row : due) {
            for (int what = 0; what < 3; what++) {
                check.due("shown(0, " + row[0] + ", " + what + ")", x.shown(0, row[0], what), row[1 + what]);
            }
        }
        Check.sheet(x, 0, 2, 3);
        check.due("nobody likes it: the first", x.shown(0, 14, 0), 1);
        check.due("nobody likes it: 0", x.shown(0, 14, 1), 0);
        Check.law(x, "likes 1 ; keeps crowd ; offers crowd*10 ;");
        check.due("crowd is how many they are", x.shown(0, 2, 1), 10);
        check.due("crowd is how many they are", x.shown(0, 14, 1), 30);
    }

    private static void shownRefused() {
        FlatToLet x = flat();
        for (int s : new int[] {-1, 4, MIN, MAX}) check.due("sheet " + s, x.shown(s, -1, 9), -2);
        check.due("missing", x.shown(0, -1, 9), -11);
        Check.sheet(x, 0, 2, 1, 1);
        check.due("no tour", x.shown(0, -1, 9), -2);
        Check.sheet(x, 0, 2, 1);
        check.due("none there, none come", x.shown(0, 0, 0), -1);
        check.due("none there", x.shown(0, 1, 0), -7);
        x.viewer(0, 0);
        x.viewer(0, 0);
        for (int some : new int[] {-1, 4, 5, 256, MIN, MAX}) check.due("some " + some, x.shown(0, some, 0), -7);
        for (int what : new int[] {-1, 3, MIN, MAX}) check.due("what " + what, x.shown(0, 3, what), -7);
        check.due("both", x.shown(0, 3, 0), 0);
        for (int v = 2; v < 8; v++) x.viewer(0, 100 * v);
        check.due("all eight", x.shown(0, 255, 0), 0);
        check.due("a ninth", x.shown(0, 256, 0), -7);
    }
}
