/** Promise 7 and what texts say (promise 9): tokens, grammar, faults, values. */
public final class TextTest {
    private static final Check check = new Check();

    public static void main(String[] args) {
        values();
        names();
        parts();
        tokens();
        faults();
        depth();
        full();
        check.end();
    }

    /** What likes says, if it is the expression. */
    private static int likes(String e) {
        FlatToLet x = new FlatToLet();
        x.viewer(0, 4321);
        x.room(3, 0, 17);
        x.room(3, 1, 5);
        int t = Check.read(x, "likes " + e + ";keeps 1;offers 1;");
        if (x.force(t) != 0) return t;
        return x.asks(0, 0, 3, 2);
    }

    private static void says(String e, int value) {
        check.due(e, likes(e), value);
    }

    private static void values() {
        says("7", 7);
        says("0042", 42);
        says("9999", 99);
        says("-9999", -99);
        says("2 or 0", 1);
        says("0 or 0", 0);
        says("0 or -3", 1);
        says("2 and 3", 1);
        says("2 and 0", 0);
        says("0 and 2", 0);
        says("not 2", 0);
        says("not 0", 1);
        says("not not 5", 1);
        says("3 < 4", 1);
        says("4 < 4", 0);
        says("-1 < 0", 1);
        says("4 = 4", 1);
        says("4 = 3", 0);
        says("1 + 2 * 3", 7);
        says("2 * 3 + 1", 7);
        says("10 - 3 - 2", 5);
        says("10 - 3 + 2", 9);
        says("2 * 3 * 4", 24);
        says("-3 - 4", -7);
        says("- - 3", 3);
        says("--3", 3);
        says("1--3", 4);
        says("2 * -3", -6);
        says("-2 * 3 + 1", -5);
        says("-(2 + 3)", -5);
        says("(1 + 2) * 3", 9);
        says("((4))", 4);
        says("10 - (3 - 2)", 9);
        says("1 or 1 and 0", 1);
        says("0 and 1 or 1", 1);
        says("0 and (1 or 1)", 0);
        says("0 or 0 or 4", 1);
        says("3 and 4 and 5", 1);
        says("3 and 4 and 0", 0);
        says("not 1 = 2", 1);
        says("not 0 and 0", 0);
        says("not (0 and 0)", 1);
        says("not 1 or 1", 1);
        says("1 or not 1", 1);
        says("1 and not 1", 0);
        says("1 + 1 < 1 + 2", 1);
        says("2 * 3 = 3 + 3", 1);
        says("(1 < 2) < 3", 1);
        says("5 * (2 < 3) + 4 * (3 < 2)", 5);
        says("(2 or 0) + (3 and 4)", 2);
        // wrapping at 32 bits: 9999 to the third is -1027349969 then
        says("9999 * 9999 * 9999 < 0", 1);
        says("9999 * 9999 * 9999 + 9999 * 9999 * 9999 < 0", 1);
        says("9999 * 9999 * 9999 * 3 < 0", 0);
        says("9999 * 9999 * 22 < 0", 1);
        says("-(8192 * 8192 * 32) = 8192 * 8192 * 32", 1);
    }

    private static void names() {
        says("light", 17);
        says("damp", 5);
        says("room", 3);
        says("hour", 6);
        says("crowd", 2);
        says("rich", 43);
        says("light - damp - room - hour - crowd", 1);
        says("-light", -17);
        says("not light", 0);
    }

    private static void parts() {
        FlatToLet x = new FlatToLet();
        x.viewer(0, 100);
        check.due("a text", Check.read(x, "likes 5 ; keeps 6 ; offers 7 ;"), 1);
        check.due("another", Check.read(x, "likes -5 or 0 ; keeps 8 ; offers rich+9 ;"), 2);
        int[][] says = {{0, 1, 1}, {5, 6, 7}, {1, 8, 10}};
        for (int t = 2; t >= 0; t--) {
            x.force(t);
            for (int part = 0; part < 3; part++) check.due("text " + t + ", part " + part, x.asks(part, 0, 0, 1), says[t][part]);
        }
        check.due("a bad one", Check.read(x, "likes 1 ; keeps 2 ; offers 3 "), -129);
        check.due("texts stay", x.count(2), 3);
        check.due("a good one", Check.read(x, "likes 2 ; keeps 2 ; offers 2 ;"), 3);
        x.force(3);
        check.due("its likes", x.asks(0, 0, 0, 1), 2);
    }

    private static void tokens() {
        says("1or 0", 1);
        says("0or1", 1);
        says("(1)and(1)", 1);
        says("not(0)", 1);
        says("1\n+\n \n2", 3);
        says("12\n", 12);
        FlatToLet x = new FlatToLet();
        check.due("blanks around", Check.read(x, " \n likes 1;keeps 1;offers 1;\n  "), 1);
        check.due("no blanks but where words meet", Check.read(x, "likes(1);keeps 1;offers(1);"), 2);
        fault("likes1;keeps1;offers1;", -1);
    }

    /** Reads a text on a new object; -1 if it has no fault. */
    private static void fault(String text, int place) {
        FlatToLet x = new FlatToLet();
        int want = place < 0 ? 1 : -100 - place;
        check.due("\"" + text + "\"", Check.read(x, text), want);
        check.due("the tape then", x.count(4), 0);
        check.due("texts then", x.count(2), place < 0 ? 2 : 1);
    }

    private static void faults() {
        String good = "likes 1 ; keeps 2 ; offers 3 ;";
        fault(good, -1);
        for (int n = 0; n < good.length(); n++) {
            // Cut within a word, the word is neither key nor name, if it is not too short to be one at all.
            String cut = good.substring(0, n);
            int place = cut.matches("(?s).*[a-z]") && !cut.matches(".*(likes|keeps|offers)")
                ? Math.max(cut.lastIndexOf(' ') + 1, 0) : n;
            fault(cut, place);
        }
        fault("", 0);
        fault("  ", 2);
        fault(good + " 2", 31);
        fault(good + " 0", 31);
        fault(good + "#", 30);
        fault(good + ";", 30);
        fault(good + "likes", 30);
        fault("keeps 1 ;", 0);
        fault(" offers", 1);
        fault("likes ;", 6);
        fault("likes )", 6);
        fault("likes 1 keeps", 8);
        fault("likes 1 ; likes", 10);
        fault("likes 1 2", 8);
        fault("likes (1 ; keeps", 9);
        fault("likes 1) ; keeps", 7);
        fault("likes 1 + ; keeps", 10);
        fault("likes + 1 ; keeps", 6);
        fault("likes * 1 ; keeps", 6);
        fault("likes 1 < 2 < 3 ;", 12);
        fault("likes 1 = 2 < 3 ;", 12);
        fault("likes 1 < 2 = 3 ;", 12);
        fault("likes 1 < = 3 ;", 10);
        fault("likes 1 + not 2 ;", 10);
        fault("likes 1 < not 2 ;", 10);
        fault("likes - not 2 ;", 8);
        fault("likes 1 not 2 ;", 8);
        fault("likes not ;", 10);
        fault("likes and 1 ;", 6);
        fault("likes 1 and ;", 12);
        fault("likes 1 or or 1 ;", 11);
        fault("likes 1 ( 2 )", 8);
        fault("likes 1 offers 2 ;", 8);
        fault("likes offers 2 ;", 6);
        fault("likes ( ) ;", 8);
        fault("likes likes ;", 6);
        fault("likes keeps ;", 6);
        fault("likes foo ;", 6);
        fault("likes lights ;", 6);
        fault("likes ligh ;", 6);
        fault("likes notlight ;", 6);
        fault("likes lightz ;", 6);
        fault("likes lighta ;", 6);
        fault("likes zlight ;", 6);
        fault("likes xight ;", 6);
        fault("likes 1 xr 2 ;", 8);
        fault("likes 1 ; offers 1 ;", 10);
        fault("likes 1 ; keeps 1 ; keeps 1 ;", 20);
        fault("likes 12345 ;", 6);
        fault("likes 00001 ;", 6);
        fault("likes 1 + 12345678901 ;", 10);
        fault("likes 1234a ;", 10);
        fault("likes 1a ;", 7);
        fault("Likes 1 ;", 0);
        fault("likes Light ;", 6);
        fault("likes 1\t;", 7);
        fault("likes 1\r;", 7);
        fault("likes 1 / 2 ;", 8);
        fault("likes 1 > 2 ;", 8);
        fault("likes 1, 2 ;", 7);
        fault("likes a#", 6);
        fault("likes light# ;", 11);
        fault("likes \u00e9 ;", 6);
        fault("likes \u0000 ;", 6);
        fault("likes \u00ff ;", 6);
        fault("likes light \u0080 ;", 12);
        // the first of two faults
        fault("likes 12345 foo", 6);
        fault("likes 1 2 foo #", 8);
    }

    private static void open(String e, int place) {
        fault("likes " + e + ";keeps 1;offers 1;", place < 0 ? -1 : place + 6);
    }

    private static void depth() {
        open("(((((1)))))", -1);
        open("((((((1))))))", 5);
        open("not not not not not 1", -1);
        open("not not not not not not 1", 20);
        open("-----1", -1);
        open("------1", 5);
        open("- - - - -(1)", 9);
        open("(not(-(1)))", -1);
        open("(not(-((1))))", 7);
        open("(not(-(-1)))", 7);
        open("(not(-(not 1)))", 7);
        open("(not(--1))", -1);
        open("(((((not 1)))))", 5);
        open("(((((-1)))))", 5);
        open("(((((1-1)))))", -1);
        open("(((((1)))))+(((((1)))))", -1);
        open("-----1*-----1", -1);
        open("-----1-(((((1)))))", -1);
        open("-(((( 1 ))))*(((((1)))))", -1);
        open("not((((1))))<((((1))))", -1);
        open("not 1<(((((1)))))", 10);
        open("not 1+(((((1)))))", 10);
        open("not 1 and(((((1)))))", -1);
        open("not 1 or not not not not not 1", -1);
        open("not 1 or not not not not not not 1", 29);
        open("(not 1)+(((((1)))))", -1);
        open("(-1 or (((( 1 )))))", -1);
        open("(-1 or ((((( 1 ))))))", 11);
    }

    private static void full() {
        FlatToLet x = new FlatToLet();
        for (int t = 1; t <= 5; t++) check.due("text " + t, Check.read(x, "likes " + t + ";keeps 1;offers 1;"), t);
        check.due("count(2)", x.count(2), 6);
        check.due("a seventh", Check.read(x, "likes 6;keeps 1;offers 1;"), FlatToLet.FULL);
        check.due("the tape stays", x.count(4), 25);
        check.due("again", x.text(), FlatToLet.FULL);
        Check.feed(x, "#");
        check.due("ahead of the fault", x.text(), FlatToLet.FULL);
        check.due("the tape stays", x.count(4), 26);
        check.due("texts", x.count(2), 6);
        FlatToLet y = new FlatToLet();
        for (int t = 1; t <= 5; t++) Check.read(y, "likes " + t + ";keeps 1;offers 1;");
        check.due("ahead of an empty tape's fault", y.text(), FlatToLet.FULL);
        StringBuilder longest = new StringBuilder("likes 1;keeps 1;offers 1");
        while (longest.length() < 159) longest.append("+");
        check.due("160 bytes, faulty", Check.read(new FlatToLet(), longest + ";"), -124 - 1);
        longest = new StringBuilder("likes 1;keeps 1;offers 0");
        while (longest.length() < 158) longest.append("+1");
        longest.append(" ;");
        FlatToLet z = new FlatToLet();
        z.viewer(0, 0);
        check.due("160 bytes", Check.read(z, longest.toString()), 1);
        z.force(1);
        check.due("their sum", z.asks(2, 0, 0, 1), 67);
    }
}
