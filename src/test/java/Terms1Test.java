/** "Terms" 1, sentence by sentence: what bounds rooms and viewers, what each kind likes, keeps, offers. */
public final class Terms1Test {
    private static final int BAD = FlatToLet.BAD;
    private static final int MIN = Integer.MIN_VALUE, MAX = Integer.MAX_VALUE;
    private static final Check check = new Check();

    public static void main(String[] args) {
        rooms();
        hour();
        viewers();
        viewer();
        couple();
        student();
        doctor();
        pensioner();
        cat();
        asAbove();
        bounds();
        check.end();
    }

    // ---- rooms, the hour, viewers

    private static void rooms() {
        check.says("Terms 1", "ROOMS 0 .. 5: each LIGHT (0 .. 99; 0 at first), DAMP (0 .. 99; 0).");
        FlatToLet x = new FlatToLet();
        for (int r = 0; r < 6; r++) {
            for (int what = 0; what < 2; what++) {
                String of = "(" + r + ", " + what + ")";
                check.due("told" + of + " at first", x.told(r, what), 0);
                check.due("room" + of + " to 99", x.room(r, what, 99), 0);
                check.due("room" + of + " to 0", x.room(r, what, 0), 99);
                check.due("room" + of + " to 1", x.room(r, what, 1), 0);
                check.due("room" + of + " to 98", x.room(r, what, 98), 1);
                for (int v : new int[] {-1, 100, MIN, MAX}) check.due("room" + of + " to " + v, x.room(r, what, v), -7);
                check.due("told" + of + " as it was", x.told(r, what), 98);
            }
        }
        for (int r = 0; r < 6; r++) {
            x.room(r, 0, 10 + r);
            x.room(r, 1, 20 + r);
        }
        for (int r = 0; r < 6; r++) {
            check.due("light of its own", x.told(r, 0), 10 + r);
            check.due("damp of its own", x.told(r, 1), 20 + r);
        }
        for (int r : new int[] {-1, 6, MIN, MAX}) {
            check.due("no room " + r, x.told(r, 0), -5);
            check.due("no room " + r, x.room(r, 1, 5), -5);
        }
    }

    private static void hour() {
        check.says("Terms 1", "THE HOUR (0 .. 11; 6 at first).");
        FlatToLet x = new FlatToLet();
        check.due("the hour at first", x.count(1), 6);
        int was = 6;
        for (int h : new int[] {0, 1, 10, 11}) {
            check.due("hours(" + h + ")", x.hours(h), was);
            check.due("the hour", x.count(1), h);
            was = h;
        }
        for (int h : new int[] {-1, 12, MIN, MAX}) check.due("hours(" + h + ")", x.hours(h), BAD);
        check.due("the hour as it was", x.count(1), 11);
    }

    private static void viewers() {
        check.says("Terms 1", "VIEWERS are numbered from 0 on, 8 at most: of a KIND, with MORE (0 .. 9)");
        FlatToLet x = new FlatToLet();
        for (int v = 0; v < 8; v++) check.due("number", x.viewer(v, 0), v);
        check.due("a ninth", x.viewer(8, 0), FlatToLet.FULL);
        check.due("eight", x.count(0), 8);
        for (int kindMore = 0; kindMore < 60; kindMore++) {
            FlatToLet y = new FlatToLet();
            check.due("viewer(" + kindMore + ", 0)", y.viewer(kindMore, 0), 0);
            check.due("kind of " + kindMore, y.one(0, 2), kindMore / 10);
            check.due("more of " + kindMore, y.one(0, 3), kindMore % 10);
        }
        FlatToLet none = new FlatToLet();
        for (int kindMore : new int[] {-1, -10, 60, 61, 69, MIN, MAX}) check.due("no kind", none.viewer(kindMore, 0), BAD);
        check.due("none came", none.count(0), 0);

        check.says("Terms 1", "RICH (0 .. 999), QUIET (0 .. 99).");
        for (int rich : new int[] {0, 1, 998, 999}) {
            for (int quiet : new int[] {0, 1, 98, 99}) {
                FlatToLet y = new FlatToLet();
                y.viewer(0, 100 * rich + quiet);
                check.due("rich", y.one(0, 0), rich);
                check.due("quiet", y.one(0, 1), quiet);
                y.put(0, 0, 999 - rich);
                y.put(0, 1, 99 - quiet);
                check.due("rich then", y.one(0, 0), 999 - rich);
                check.due("quiet then", y.one(0, 1), 99 - quiet);
                for (int to : new int[] {-1, 1000, MIN, MAX}) check.due("rich to " + to, y.put(0, 0, to), -7);
                for (int to : new int[] {-1, 100, MIN, MAX}) check.due("quiet to " + to, y.put(0, 1, to), -7);
                check.due("rich as it was", y.one(0, 0), 999 - rich);
                check.due("quiet as it was", y.one(0, 1), 99 - quiet);
            }
        }
        for (int bad : new int[] {-1, 100000, 100001, MIN, MAX}) check.due("too rich or poor", none.viewer(0, bad), BAD);
        check.due("none came", none.count(0), 0);
    }

    // ---- kinds

    /** How one of a kind likes a room of which the text says so. */
    private static int likes(int kindMore, int room, int said) {
        FlatToLet x = Check.under("likes light-damp;keeps 1;offers 1;");
        x.room(room, said < 0 ? 1 : 0, Math.abs(said));
        x.viewer(kindMore, 0);
        Check.sheet(x, 0, 2, room);
        return x.tour(0, 0, 1, 2);
    }

    /** What is in the mind of one of a kind by rooms 1, 2, .. (so many), each liked by so much, so much of it kept. */
    private static int mind(int kindMore, int said, int kept, int rooms) {
        FlatToLet x = Check.under("likes " + said + ";keeps " + kept + ";offers 1;");
        x.viewer(kindMore, 0);
        x.sheet(0, 2, rooms);
        for (int i = 0; i < rooms; i++) x.cell(0, i, i + 1);
        return x.tour(0, 0, 1, 0);
    }

    /** What one of a kind who is so rich offers by one room (not the kitchen), liked by so much, kept once. */
    private static int offers(int kindMore, int rich, int said, int crowd) {
        FlatToLet x = Check.under("likes " + said + ";keeps 1;offers rich;");
        x.viewer(kindMore, 100 * rich);
        Check.sheet(x, 0, 2, 1);
        return x.tour(0, 0, crowd, 1);
    }

    private static void viewer() {
        check.says("Terms 1", "0 VIEWER: that; that; that, if MIND is above 0, else 0.");
        for (int said : new int[] {-99, -98, -1, 0, 1, 98, 99}) {
            check.due("likes", likes(0, 0, said), said);
            check.due("likes, more 9", likes(9, 0, said), said);
            check.due("likes another room", likes(9, 5, said), said);
        }
        for (int kept : new int[] {0, 1, 9}) {
            check.due("keeps of one", mind(9, 7, kept, 1), 7 * kept);
            check.due("keeps of three", mind(9, 7, kept, 3), 21 * kept);
        }
        check.due("mind 1", offers(9, 500, 1, 1), 500);
        check.due("mind 0", offers(9, 500, 0, 1), 0);
        check.due("mind -1", offers(9, 500, -1, 1), 0);
        check.due("mind 1, crowd 8", offers(9, 500, 1, 8), 500);
        check.due("mind 0, crowd 8", offers(9, 500, 0, 8), 0);
        check.due("nothing rich", offers(0, 0, 99, 1), 0);
        check.due("999 rich", offers(0, 999, 99, 1), 999);
    }

    private static void couple() {
        check.says("Terms 1", "1 COUPLE (a VIEWER): LIKES ROOM 0 twice MORE less; KEEPS twice of the first.");
        check.due("more 0", likes(10, 0, 50), 50);
        check.due("more 1", likes(11, 0, 50), 48);
        check.due("more 9", likes(19, 0, 50), 32);
        check.due("0, more 1", likes(11, 0, 0), -2);
        for (int r = 1; r < 6; r++) check.due("more 9, room " + r, likes(19, r, 50), 50);
        check.due("-97 less 2", likes(11, 0, -97), -99);
        check.due("-98 less 2", likes(11, 0, -98), -99);
        check.due("-98 less 0", likes(10, 0, -98), -98);
        check.due("-99 less 18", likes(19, 0, -99), -99);
        check.due("99 less 18", likes(19, 0, 99), 81);
        check.due("the first, alone, the last too", mind(19, 7, 4, 1), 56);
        check.due("the first of two", mind(19, 7, 4, 2), 84);
        check.due("the first of five", mind(19, 7, 4, 5), 7 * 24);
        check.due("twice of none", mind(19, 7, 0, 2), 0);
        check.due("twice of 9 is above 9", mind(19, 7, 9, 1), 126);
        check.due("offers", offers(19, 500, 1, 8), 500);
        check.due("offers, mind 0", offers(19, 500, 0, 8), 0);
    }

    private static void student() {
        check.says("Terms 1", "2 STUDENT (a VIEWER): KEEPS MORE more of the last; OFFERS 10 times CROWD more, if CROWD is above 2.");
        check.due("the last, alone, the first too", mind(25, 7, 4, 1), 63);
        check.due("the last of two", mind(25, 7, 4, 2), 91);
        check.due("the last of five", mind(25, 7, 4, 5), 7 * 25);
        check.due("more 0", mind(20, 7, 4, 2), 56);
        check.due("9 and 9 more", mind(29, 7, 9, 1), 126);
        check.due("of what is not liked, too", mind(25, -7, 4, 2), -91);
        int[] crowds = {100, 100, 130, 140, 150, 160, 170, 180};
        int[] empty = {0, 0, 30, 40, 50, 60, 70, 80};
        for (int crowd = 1; crowd <= 8; crowd++) {
            check.due("crowd " + crowd, offers(25, 100, 1, crowd), crowds[crowd - 1]);
            check.due("mind 0, crowd " + crowd, offers(25, 100, 0, crowd), empty[crowd - 1]);
            check.due("mind below 0, crowd " + crowd, offers(25, 100, -99, crowd), empty[crowd - 1]);
        }
        check.due("above 999", offers(20, 999, 1, 8), 1079);
        check.due("likes", likes(29, 0, -50), -50);
    }

    private static void doctor() {
        check.says("Terms 1", "3 DOCTOR (a COUPLE): LIKES twice what a COUPLE does, if the text says less than 0; OFFERS MIND more.");
        for (int r = 1; r < 6; r++) {
            check.due("-1", likes(39, r, -1), -2);
            check.due("0", likes(39, r, 0), 0);
            check.due("1", likes(39, r, 1), 1);
            check.due("99", likes(39, r, 99), 99);
        }
        check.due("-49", likes(30, 5, -49), -98);
        check.due("-50", likes(30, 5, -50), -99);
        check.due("-99", likes(30, 5, -99), -99);
        check.due("the kitchen, -1 less 2", likes(31, 0, -1), -6);
        check.due("the kitchen, 0 less 2, not twice", likes(31, 0, 0), -2);
        check.due("the kitchen, 1 less 2, not twice", likes(31, 0, 1), -1);
        check.due("the kitchen, -47 less 2", likes(31, 0, -47), -98);
        check.due("the kitchen, -48 less 2", likes(31, 0, -48), -99);
        check.due("the kitchen, -99 less 18", likes(39, 0, -99), -99);
        check.due("the kitchen, 18 less 18", likes(39, 0, 18), 0);
        check.due("keeps as a couple", mind(39, 7, 4, 2), 84);
        check.due("mind 2", offers(30, 500, 1, 1), 502);
        check.due("mind 0", offers(30, 500, 0, 1), 0);
        check.due("mind -4: 0 at least", offers(30, 500, -1, 1), 0);
        check.due("mind 2, poor", offers(30, 0, 1, 1), 2);
        check.due("mind 198, rich", offers(30, 999, 99, 8), 1197);
    }

    private static void pensioner() {
        check.says("Terms 1", "4 PENSIONER (a STUDENT): KEEPS 3 more than the text says of what one LIKES less than 0, of all else as a STUDENT;");
        check.due("-1, the last", mind(45, -1, 2, 1), -5);
        check.due("-1, two", mind(45, -1, 2, 2), -10);
        check.due("1, the last", mind(45, 1, 2, 1), 7);
        check.due("1, two", mind(45, 1, 2, 2), 9);
        check.due("0", mind(45, 0, 2, 2), 0);
        check.due("3 more than 9", mind(45, -1, 9, 1), -12);
        check.due("3 more than 0", mind(45, -1, 0, 2), -6);
        check.due("more 0", mind(40, -1, 0, 2), -6);
        check.due("likes", likes(49, 0, -50), -50);

        check.says("Terms 1", "OFFERS half (cut) of a STUDENT's.");
        int[] riches = {0, 1, 2, 3, 998, 999}, halves = {0, 0, 1, 1, 499, 499};
        for (int i = 0; i < riches.length; i++) check.due("half of " + riches[i], offers(45, riches[i], 1, 2), halves[i]);
        check.due("half of 101 and 30", offers(45, 101, 1, 3), 65);
        check.due("half of 999 and 80", offers(45, 999, 1, 8), 539);
        check.due("half of 30", offers(45, 101, 0, 3), 15);
        check.due("half of nothing", offers(45, 101, 0, 2), 0);
        check.due("half of 80", offers(45, 101, -9, 8), 40);
    }

    private static void cat() {
        check.says("Terms 1", "5 CAT (a VIEWER): LIKES ROOM MORE modulo 6 by 99, all others by 0; OFFERS 0.");
        int[] its = {0, 1, 2, 3, 4, 5, 0, 1, 2, 3};
        for (int more = 0; more < 10; more++) {
            for (int r = 0; r < 6; r++) {
                for (int said : new int[] {-99, 0, 50}) {
                    check.due("cat of more " + more + ", room " + r, likes(50 + more, r, said), its[more] == r ? 99 : 0);
                }
            }
        }
        check.due("keeps what the text says of its room", mind(52, -5, 4, 3), 99 * 4);
        check.due("of its room as the first, the last, too", mind(51, -5, 4, 1), 99 * 4);
        check.due("keeps 0", mind(52, 99, 0, 3), 0);
        for (int crowd = 1; crowd <= 8; crowd++) check.due("offers", offers(51, 999, 99, crowd), 0);
    }

    private static void asAbove() {
        check.says("Terms 1", "(Whatever isn't told is as of the KIND above.");
        check.due("a student likes as a viewer, not as a couple", likes(29, 0, 50), 50);
        check.due("a student keeps of the first as a viewer", mind(20, 7, 4, 3), 84);
        check.due("a doctor likes the kitchen as a couple", likes(39, 0, 50), 32);
        check.due("a doctor keeps nothing more of the last", mind(39, 7, 4, 3), 7 * 16);
        check.due("a doctor offers nothing for a crowd", offers(39, 500, 0, 8), 0);
        check.due("a pensioner likes as a viewer", likes(49, 0, -20), -20);
        check.due("a cat keeps nothing more of the last", mind(53, 0, 4, 3), 396);
        check.due("a couple offers nothing for a crowd", offers(19, 500, 1, 8), 500);
    }

    private static void bounds() {
        check.says("Terms 1", "LIKES -99 .. 99, else the bound; KEEPS, OFFERS 0 at least.)");
        check.due("a couple of 9, the text far below", likesOf("0-9999", 19), -99);
        check.due("a couple of 9, the text far above: 99 less 18", likesOf("9999", 19), 81);
        check.due("a couple of 1, the text at -99", likesOf("-99", 11), -99);
        check.due("a doctor, the text far below", likesOf("0-9999", 30), -99);
        check.due("a doctor, the text far above", likesOf("9999", 30), 99);
        FlatToLet x = Check.under("likes room*9-9;keeps 9-9*room;offers 9;");
        x.viewer(30, 0);
        x.viewer(19, 0);
        x.viewer(29, 0);
        x.viewer(49, 0);
        Check.sheet(x, 0, 2, 2, 0);
        check.due("keeps nothing of room 2, of the kitchen -18 nine times", x.tour(0, 0, 1, 0), -162);
        check.due("a doctor offers 0 at least", x.tour(0, 0, 8, 1), 0);
        check.due("a couple keeps nothing twice; -27 nine times", x.tour(0, 1, 1, 0), -243);
        check.due("a student keeps 9 more", x.tour(0, 2, 1, 0), -162);
        check.due("a pensioner keeps 3 more", x.tour(0, 3, 1, 0), -108);
        check.due("half of nothing", x.tour(0, 3, 2, 1), 0);
    }

    private static int likesOf(String e, int kindMore) {
        FlatToLet x = Check.under("likes " + e + ";keeps 1;offers 1;");
        x.viewer(kindMore, 0);
        Check.sheet(x, 0, 2, 0);
        return x.tour(0, 0, 1, 2);
    }
}
