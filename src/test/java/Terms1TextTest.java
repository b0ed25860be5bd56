import java.util.ArrayList;
import java.util.List;

/** "Terms" 1, sentence by sentence: the tape, tokens, the grammar, values, faults, texts. */
public final class Terms1TextTest {
    private static final int FULL = FlatToLet.FULL;
    private static final int MIN = Integer.MIN_VALUE, MAX = Integer.MAX_VALUE;
    private static final String MOST = "8192*8192*32-1", LEAST = "8192*8192*32";
    private static final Check check = new Check();

    public static void main(String[] args) {
        tape();
        longest();
        words();
        numbers();
        signs();
        blanks();
        grammar();
        joins();
        names();
        ints();
        faults();
        opens();
        texts();
        textBounds();
        check.end();
    }

    // ---- ways to ask

    /** The text is read on a new object: its fault is there, or (-1) nowhere. */
    private static void fault(String text, int place) {
        check.due("\"" + text.replace("\n", "\\n") + "\"", Check.read(new FlatToLet(), text), place < 0 ? 1 : -100 - place);
    }

    /** An E is what a text likes; the fault is so far behind its beginning, or (-1) nowhere. */
    private static void faultOf(String e, int place) {
        fault("likes " + e + ";keeps 1;offers 1;", place < 0 ? -1 : 6 + place);
    }

    /** What an E says, if it is what is liked of room 3 (light 17, damp 5) at 6 by one of two, who is rich 43. */
    private static void says(String e, int value) {
        FlatToLet x = new FlatToLet();
        x.viewer(0, 4321);
        x.room(3, 0, 17);
        x.room(3, 1, 5);
        int t = Check.read(x, "likes " + e + ";keeps 1;offers 1;");
        check.due(e + " is read", t, 1);
        if (t != 1) return;
        x.force(1);
        check.due(e, x.asks(0, 0, 3, 2), value);
    }

    private static String many(String s, int n) {
        return s.repeat(n);
    }

    // ---- the tape and its tokens

    private static void tape() {
        check.says("Terms 1", "THE TAPE (160 bytes at most)");
        FlatToLet x = new FlatToLet();
        for (int k = 1; k <= 32; k++) check.due("five more", x.feed(5, 32, 32, 32, 32, 32), 5 * k);
        for (int n = 1; n <= 5; n++) check.due(n + " more", x.feed(n, 32, 32, 32, 32, 32), FULL);
        check.due("bytes", x.count(4), 160);
        String good = "likes 1;keeps 2;offers 3;";
        check.due("blanks ahead, 160 bytes", Check.read(new FlatToLet(), many(" ", 135) + good), 1);
        check.due("blanks behind, 160 bytes", Check.read(new FlatToLet(), good + many("\n", 135)), 1);
        check.due("the last byte is a fault", Check.read(new FlatToLet(), good + many(" ", 134) + "#"), -259);
        check.due("the last byte is looked at", Check.read(new FlatToLet(), many(" ", 136) + "likes 1;keeps 2;offers 3"), -260);
        fault(many("a", 160), 0);
        fault(many("7", 160), 0);
        fault("likes " + many("(", 154), 11);
        fault("likes " + many("-", 154), 11);
        faultOf(many("1+", 60) + "1", -1);
        faultOf("1" + many(" or 1", 20), -1);
    }

    private static void longest() {
        check.says("Terms 1", "TOKENS, each as long as can be:");
        fault("likeslight;keeps 1;offers 1;", 0);
        fault("likes1;keeps1;offers1;", -1);
        fault("likes lightdamp;", 6);
        fault("likes notlight;", 6);
        fault("likes not light;keeps 1;offers 1;", -1);
        fault("likes 1 or1;keeps 1;offers 1;", -1);
        fault("likes 1or 1;keeps 1;offers 1;", -1);
        fault("likes 1orlight;", 7);
        fault("likes 12345;", 6);
        fault("likes 1234 5;", 11);
    }

    private static void words() {
        check.says("Terms 1", "WORDS (as many letters a .. z as stand there)");
        for (int b = 0; b < 256; b++) {
            boolean letter = b >= 'a' && b <= 'z';
            boolean goesOn = b >= '0' && b <= '9' || b == '(' || b == '-' || b == ' ' || b == '\n';
            fault("likes" + (char) b, letter ? 0 : goesOn ? 6 : 5);
        }
        for (char b = 'a'; b <= 'z'; b++) {
            faultOf("" + b, 0);
            faultOf(b + "light", 0);
            faultOf("light" + b, 0);
        }
        for (String key : new String[] {"LIKES", "Likes", "likeS", "like", "ikes", "lik es", "l ikes"}) fault(key + " 1;", 0);
    }

    private static void numbers() {
        check.says("Terms 1", "NUMBERS (as many digits as stand there; more than 4 are too long)");
        for (int b = 0; b < 256; b++) {
            boolean goesOn = b >= '0' && b <= '9' || ";+-*<= \n".indexOf(b) >= 0;
            fault("likes 1" + (char) b, goesOn ? 8 : 7);
        }
        for (String n : new String[] {"0", "9", "00", "0000", "0009", "9999", "1000"}) faultOf(n, -1);
        for (String n : new String[] {"00000", "00001", "10000", "99999", "123456", many("0", 100)}) faultOf(n, 0);
        for (int n : new int[] {0, 1, 9, 10, 99}) says("" + n, n);
        says("0099", 99);
        says("1234-1200", 34);
        says("9876-9800", 76);
    }

    private static void signs() {
        check.says("Terms 1", "SIGNS ( ) ; + - * < = ;");
        faultOf("(1)", -1);
        for (String sign : new String[] {"+", "-", "*", "<", "="}) {
            faultOf("1" + sign + "1", -1);
            faultOf("1 " + sign + "\n1", -1);
        }
        for (int b = 0; b < 256; b++) {
            boolean ends = b >= '0' && b <= '9' || "(- \n".indexOf(b) >= 0;
            fault("likes " + (char) b, ends ? 7 : 6);
        }
        for (String two : new String[] {"<=", "==", "=<", "><", "!=", "=>", "<>"}) faultOf("1" + two + "1", two.charAt(0) == '>' || two.charAt(0) == '!' ? 1 : 2);
    }

    private static void blanks() {
        check.says("Terms 1", "blanks (32, 10) may stand between.");
        fault(" \n likes \n 1 \n ; \n keeps \n 2 \n ; \n offers \n 3 \n ; \n ", -1);
        fault("\nlikes\n1\n;\nkeeps\n2\n;\noffers\n3\n;\n", -1);
        fault("likes 1;keeps 2;offers 3;", -1);
        for (int b = 0; b < 33; b++) {
            if (b == 32 || b == 10) continue;
            fault("likes 1" + (char) b + ";keeps 2;offers 3;", 7);
            fault("likes 1;keeps 2;offers 3;" + (char) b, 25);
        }
        fault("likes 1" + (char) 160 + ";", 7);
        fault("likes 1 2;", 8);
        fault("likes li ght;", 6);
        fault("likes light damp;", 12);
    }

    // ---- the grammar

    private static void grammar() {
        check.says("Terms 1", "TEXT: likes E ; keeps E ; offers E ;");
        fault("likes 1;keeps 2;offers 3;", -1);
        fault("likes 1;keeps 2;offers 3", 24);
        fault("likes 1;keeps 2;", 16);
        fault("likes 1;", 8);
        fault("likes", 5);
        fault("likes;", 5);
        fault("likes 1;keeps;", 13);
        fault("likes 1;keeps 2;offers;", 22);
        fault("likes 1;keeps 2;offers 3;;", 25);
        fault("likes 1;keeps 2;offers 3;likes 1;", 25);
        fault("likes 1;keeps 2;offers 3;4", 25);
        fault("likes 1;;keeps 2;", 8);
        fault("likes 1 keeps 2;", 8);
        fault("likes 1;offers 3;", 8);
        fault("likes 1;likes 1;", 8);
        fault("likes 1;keeps 2;keeps 2;", 16);
        fault("keeps 2;", 0);
        fault("offers 3;", 0);
        fault("1;", 0);
        fault(";", 0);

        check.says("Terms 1", "E: AND { or AND }.");
        faultOf("1 or 2 or 3", -1);
        faultOf("1 or", 4);
        faultOf("or 1", 0);
        faultOf("1 or or 1", 5);
        check.says("Terms 1", "AND: NOT { and NOT }.");
        faultOf("1 and 2 and 3", -1);
        faultOf("1 and not 2 and not not 3", -1);
        faultOf("1 and", 5);
        faultOf("and 1", 0);
        faultOf("1 and and 1", 6);
        check.says("Terms 1", "NOT: not NOT, or SUM, perhaps < or = and a SUM.");
        faultOf("not not not 1", -1);
        faultOf("not", 3);
        faultOf("1 not 1", 2);
        faultOf("1 < 2", -1);
        faultOf("not 1 = 2", -1);
        faultOf("1 < 2 < 3", 6);
        faultOf("1 < 2 = 3", 6);
        faultOf("1 = 2 < 3", 6);
        faultOf("1 = 2 = 3", 6);
        faultOf("(1 < 2) = 3", -1);
        faultOf("1 = (2 < 3)", -1);
        faultOf("1 < 2 and 3 < 4 or 5 = 6", -1);
        faultOf("1 < not 2", 4);
        faultOf("1 < (not 2)", -1);
        faultOf("< 1", 0);
        faultOf("1 <", 3);
        check.says("Terms 1", "SUM: TERM { + or - TERM }.");
        faultOf("1 + 2 - 3 + 4", -1);
        faultOf("1 +", 3);
        faultOf("+ 1", 0);
        faultOf("1 + + 1", 4);
        faultOf("1 + - 1", -1);
        faultOf("1 + not 1", 4);
        check.says("Terms 1", "TERM: ONE { * ONE }.");
        faultOf("1 * 2 * 3", -1);
        faultOf("1 *", 3);
        faultOf("* 1", 0);
        faultOf("1 * * 1", 4);
        faultOf("1 * not 1", 4);
        check.says("Terms 1", "ONE: a NUMBER, a NAME, - ONE, ( E ).");
        for (String one : new String[] {"5", "light", "- 5", "- light", "- - 5", "-(5)", "( 5 )", "(5 or 6)"}) faultOf(one, -1);
        faultOf("()", 1);
        faultOf("(1", 2);
        faultOf("1)", 1);
        faultOf("-", 1);
        faultOf("- not 1", 2);
        faultOf("- + 1", 2);
        faultOf("(1;", 2);
        faultOf("1 2", 2);
        faultOf("1 light", 2);
        faultOf("light 1", 6);
        faultOf("1 (2)", 2);
        faultOf("(1) 2", 4);
    }

    private static void joins() {
        check.says("Terms 1", "of or, and, not, <, = 1 or 0 (what is not 0 is true)");
        String[] values = {"0", "1", "2", "-1", "(" + LEAST + ")", "(" + MOST + ")"};
        for (int a = 0; a < values.length; a++) {
            says("not " + values[a], a == 0 ? 1 : 0);
            says("not not " + values[a], a == 0 ? 0 : 1);
            for (int b = 0; b < values.length; b++) {
                says(values[a] + " or " + values[b], a != 0 || b != 0 ? 1 : 0);
                says(values[a] + " and " + values[b], a != 0 && b != 0 ? 1 : 0);
                says(values[a] + "=" + values[b], a == b ? 1 : 0);
            }
        }
        // -2147483648 < -1 < 0 < 1 < 2 < 2147483647
        String[] rising = {"(" + LEAST + ")", "-1", "0", "1", "2", "(" + MOST + ")"};
        for (int a = 0; a < rising.length; a++) {
            for (int b = 0; b < rising.length; b++) says(rising[a] + "<" + rising[b], a < b ? 1 : 0);
        }
        says("7-4-2", 1);
        says("7-(4-2)", 5);
        says("2+3*4", 14);
        says("(2+3)*4", 20);
        says("-2*3", -6);
        says("-2-3", -5);
        says("-(2-3)", 1);
        says("1 or 0 and 0", 1);
        says("(1 or 0) and 0", 0);
        says("not 0 and 0", 0);
        says("not (0 and 0)", 1);
        says("not 2 < 1", 1);
        says("(not 2) < 1", 1);
        says("not 0 = 0", 0);
        says("1 + 1 = 2", 1);
        says("1 + (1 = 2)", 1);
        says("(3 < 4) * 50 + (4 < 3) * 20", 50);
    }

    private static void names() {
        check.says("Terms 1", "light, damp, room (its number); hour: THE HOUR; crowd: CROWD; rich: RICH.");
        says("light", 17);
        says("damp", 5);
        says("room", 3);
        says("hour", 6);
        says("crowd", 2);
        says("rich", 43);
        FlatToLet x = Check.under("likes light+damp+room+hour+crowd+rich;keeps room;offers hour*50+crowd;");
        check.due("rich 0", x.viewer(0, 0), 0);
        check.due("rich 9", x.viewer(0, 900), 1);
        x.hours(0);
        check.due("all 0, crowd 1", x.asks(0, 0, 0, 1), 1);
        check.due("crowd 8", x.asks(0, 0, 0, 8), 8);
        check.due("room 5", x.asks(0, 0, 5, 1), 6);
        check.due("of who is rich 9", x.asks(0, 1, 0, 1), 10);
        for (int r = 0; r < 6; r++) check.due("keeps, room " + r, x.asks(1, 0, r, 1), r);
        for (int h = 0; h < 12; h++) {
            x.hours(h);
            check.due("offers at " + h, x.asks(2, 0, 0, 7), 50 * h + 7);
        }

        check.says("Terms 1", "(Of offers light, damp, room 0.)");
        FlatToLet y = Check.under("likes 1;keeps 1;offers 1+light+damp+room;");
        y.viewer(0, 0);
        for (int r = 0; r < 6; r++) {
            y.room(r, 0, 99);
            y.room(r, 1, 98);
        }
        Check.sheet(y, 0, 2, 5);
        for (int r = 0; r < 6; r++) check.due("offers of room " + r, y.asks(2, 0, r, 1), 1);
        check.due("offered", y.tour(0, 0, 1, 1), 1);
    }

    private static void ints() {
        check.says("Terms 1", "An E is an int (32 bits, wrapping)");
        says(MOST + "=0-1-" + LEAST, 1);
        says(MOST + "+1=" + LEAST, 1);
        says(LEAST + "-1=" + MOST, 1);
        says("-(" + LEAST + ")=" + LEAST, 1);
        says(LEAST + "*2", 0);
        says(MOST + "<0", 0);
        says(LEAST + "<0", 1);
        says("9999*9999*22<0", 1);
        says("9999*9999*21<0", 0);
        says("4096*4096*256", 0);
        says("4096*4096*256+7", 7);
        says(LEAST, -99);
        says(MOST, 99);
        says("(" + MOST + ")*(" + MOST + ")", 1);
    }

    // ---- faults

    private static void faults() {
        check.says("Terms 1", "FAULT: the place of the first byte of the first TOKEN that can't stand there");
        fault("offers 1;", 0);
        fault("  offers 1;", 2);
        fault("likes 1 light keeps", 8);
        fault("likes 1 1234 keeps", 8);
        fault("likes 1)keeps", 7);
        fault("likes 1 2 3 4", 8);
        fault("likes 1 2 # 12345 foo", 8);

        check.says("Terms 1", "(the text's size, if it ends too early)");
        String good = "likes 1;keeps 2;offers 3;";
        for (int n = 0; n < good.length(); n++) {
            String cut = good.substring(0, n);
            boolean inWord = cut.matches(".*\\b(l|li|lik|like|k|ke|kee|keep|o|of|off|offe|offer)");
            if (inWord) continue;
            fault(cut, n);
            fault(cut + " ", n + 1);
            fault(cut + "\n \n", n + 3);
        }
        fault("", 0);
        fault("likes (1", 8);
        fault("likes 1 <", 9);
        fault("likes not ", 10);

        check.says("Terms 1", "also of a byte that begins none,");
        for (int b = 0; b < 256; b++) {
            if (b >= 'a' && b <= 'z' || b >= '0' && b <= '9' || "();+-*<= \n".indexOf(b) >= 0) continue;
            fault("" + (char) b, 0);
            fault("likes 1 " + (char) b, 8);
            fault("likes 1+" + (char) b, 8);
            fault(good + (char) b, 25);
        }
        check.says("Terms 1", "of a WORD that is neither KEY nor NAME,");
        for (String word : new String[] {"x", "lights", "ligh", "dam", "damps", "rooms", "roo", "hou", "hours", "crow",
            "crowds", "ric", "riches", "no", "nott", "an", "ands", "orr", "o", "like", "likess", "keep", "offer", "offerss",
            "light".repeat(8)}) {
            faultOf(word, 0);
            faultOf("1 + " + word, 4);
            fault("likes 1 " + word, 8);
            fault(word + " 1;", 0);
        }
        for (String key : new String[] {"likes", "keeps", "offers", "or", "and"}) faultOf("1 + " + key, 4);
        for (String name : new String[] {"light", "damp", "room", "hour", "crowd", "rich"}) {
            faultOf("1 + " + name, -1);
            for (String other : otherwise(name)) faultOf("1 + " + other, 4);
        }
        for (String other : otherwise("likes")) fault(other + " 1;keeps 1;offers 1;", 0);
        for (String other : otherwise("keeps")) fault("likes 1;" + other + " 1;offers 1;", 8);
        for (String other : otherwise("offers")) fault("likes 1;keeps 1;" + other + " 1;", 16);
        for (String other : otherwise("or")) faultOf("1 " + other + " 1", 2);
        for (String other : otherwise("and")) faultOf("1 " + other + " 1", 2);
        for (String other : otherwise("not")) faultOf(other + " 1", 0);
        check.says("Terms 1", "a NUMBER that is too long,");
        faultOf("9999", -1);
        faultOf("10000", 0);
        faultOf("1 + 00000", 4);
        fault("likes 1 12345", 8);
        fault("12345", 0);
        check.due("the tape is empty then, and no text came", counts("likes 12345;"), 10);
    }

    /** 10 times how many texts there are after this one was read, and how many bytes are left. */
    private static int counts(String text) {
        FlatToLet x = new FlatToLet();
        Check.read(x, text);
        return 10 * x.count(2) + x.count(4);
    }

    /** The word with one letter otherwise, or one less. */
    private static List<String> otherwise(String word) {
        List<String> all = new ArrayList<>();
        for (int i = 0; i < word.length(); i++) {
            all.add(word.substring(0, i) + "z" + word.substring(i + 1));
            all.add(word.substring(0, i) + word.substring(i + 1));
        }
        return all;
    }

    private static void opens() {
        check.says("Terms 1", "a ( , a not, a - ahead of a ONE while 5 of these are open");
        String[] openers = {"(", "not ", "-"};
        for (String a : openers) {
            for (String b : openers) {
                for (String c : openers) five(a + b + c);
            }
        }
        faultOf("(((((1-1)))))", -1);
        faultOf("(((((1+-1)))))", 7);
        faultOf("-----1-1", -1);
        faultOf("-----1--1", -1);
        faultOf("not not not not not 1-1-1", -1);
        faultOf("not not not not not -1", 20);
        faultOf("not not not not not 1<-1", 22);

        check.says("Terms 1", "(a ( till its ) , not and - till what they belong to ends).");
        faultOf("(1)+(((((1)))))", -1);
        faultOf("(1)+((((((1))))))", 9);
        faultOf("((1)+((((1)))))", -1);
        faultOf("((1)+(((((1))))))", 9);
        faultOf("-1+-----1", -1);
        faultOf("-1*-----1", -1);
        faultOf("-(1)*-----1", -1);
        faultOf("-1<-----1", -1);
        faultOf("-(1+----1)", 7);
        faultOf("-(1+---1)", -1);
        faultOf("--(---1)", 5);
        faultOf("not 1 and not not not not not 1", -1);
        faultOf("not 1 or not not not not not 1", -1);
        faultOf("not 1 and not not not not not not 1", 30);
        faultOf("not 1<----1", -1);
        faultOf("not 1<-----1", 10);
        faultOf("not 1=((((1))))", -1);
        faultOf("not 1=(((((1)))))", 10);
        faultOf("not 1+----1", -1);
        faultOf("not 1+-----1", 10);
        faultOf("not 1*(((((1)))))", 10);
        faultOf("not (1) and(((((1)))))", -1);
        faultOf("(not 1)+(((((1)))))", -1);
        faultOf("(not 1 or ((((1)))))", -1);
        faultOf("(not 1 or (((((1))))))", 14);
    }

    /** Behind three that are open two more can be, but no third; a "not" can't stand behind a "-" at all. */
    private static void five(String three) {
        if (three.contains("-not")) {
            faultOf(three + "1", three.indexOf("-not") + 1);
            return;
        }
        String closed = ")".repeat((int) three.chars().filter(c -> c == '(').count());
        faultOf(three + "1" + closed, -1);
        faultOf(three + "--1" + closed, -1);
        faultOf(three + "((1))" + closed, -1);
        faultOf(three + "---1" + closed, three.length() + 2);
        faultOf(three + "(((1)))" + closed, three.length() + 2);
        if (three.endsWith("-")) return;
        faultOf(three + "not not 1" + closed, -1);
        faultOf(three + "not not not 1" + closed, three.length() + 8);
        faultOf(three + "not not (1)" + closed, three.length() + 8);
    }

    // ---- texts

    private static void texts() {
        check.says("Terms 1", "TEXTS are numbered from 0 on, 6 at most;");
        FlatToLet x = new FlatToLet();
        x.viewer(0, 0);
        for (int t = 1; t <= 5; t++) {
            check.due("text " + t, Check.read(x, "likes " + t + ";keeps " + t + ";offers " + 100 * t + ";"), t);
            check.due("texts", x.count(2), t + 1);
        }
        check.due("a seventh", Check.read(x, "likes 6;keeps 6;offers 6;"), FULL);
        check.due("texts", x.count(2), 6);
        for (int t = 5; t >= 1; t--) {
            x.force(t);
            check.due("likes of " + t, x.asks(0, 0, 0, 1), t);
            check.due("keeps of " + t, x.asks(1, 0, 0, 1), t);
            check.due("offers of " + t, x.asks(2, 0, 0, 1), 100 * t);
        }
        for (int t : new int[] {-1, 6, MIN, MAX}) check.due("force(" + t + ")", x.force(t), FlatToLet.BAD);
        FlatToLet full = new FlatToLet();
        full.viewer(0, 0);
        String e = "1" + "+1".repeat(19);
        for (int t = 1; t <= 5; t++) {
            check.due("a long one", Check.read(full, "likes " + t + "+" + e + ";keeps 0*" + t + "+" + e + ";offers " + t + "*(" + e + ");"), t);
        }
        for (int t = 1; t <= 5; t++) {
            full.force(t);
            check.due("likes of a long one", full.asks(0, 0, 0, 1), 20 + t);
            check.due("keeps of a long one", full.asks(1, 0, 0, 1), 9);
            check.due("offers of a long one", full.asks(2, 0, 0, 1), 20 * t);
        }

        check.says("Terms 1", "TEXT 0, at first, and THE LAW: likes light - damp ; keeps 1 ; offers rich ;");
        FlatToLet y = new FlatToLet();
        check.due("one text", y.count(2), 1);
        check.due("the law", y.count(3), 0);
        y.viewer(0, 12300);
        y.room(4, 0, 30);
        y.room(4, 1, 50);
        check.due("likes", y.asks(0, 0, 4, 1), -20);
        check.due("likes another", y.asks(0, 0, 3, 1), 0);
        check.due("keeps", y.asks(1, 0, 4, 1), 1);
        check.due("offers", y.asks(2, 0, 4, 1), 123);
        y.room(4, 1, 99);
        y.room(4, 0, 0);
        check.due("likes least", y.asks(0, 0, 4, 1), -99);
        y.room(4, 1, 0);
        y.room(4, 0, 99);
        check.due("likes most", y.asks(0, 0, 4, 1), 99);
    }

    private static void textBounds() {
        check.says("Terms 1", "(likes -99 .. 99, keeps 0 .. 9, offers 0 .. 999, else the bound)");
        String[] es = {LEAST, "0-9999", "0-1000", "-100", "-99", "-98", "-1", "0", "1", "8", "9", "10", "98", "99", "100",
            "998", "999", "1000", "9999", MOST};
        int[] likes = {-99, -99, -99, -99, -99, -98, -1, 0, 1, 8, 9, 10, 98, 99, 99, 99, 99, 99, 99, 99};
        int[] keeps = {0, 0, 0, 0, 0, 0, 0, 0, 1, 8, 9, 9, 9, 9, 9, 9, 9, 9, 9, 9};
        int[] offers = {0, 0, 0, 0, 0, 0, 0, 0, 1, 8, 9, 10, 98, 99, 100, 998, 999, 999, 999, 999};
        for (int i = 0; i < es.length; i++) {
            FlatToLet x = Check.under("likes " + es[i] + ";keeps " + es[i] + ";offers " + es[i] + ";");
            x.viewer(0, 0);
            check.due("likes " + es[i], x.asks(0, 0, 0, 1), likes[i]);
            check.due("keeps " + es[i], x.asks(1, 0, 0, 1), keeps[i]);
            check.due("offers " + es[i], x.asks(2, 0, 0, 1), offers[i]);
            Check.sheet(x, 0, 2, 1);
            check.due("liked", x.tour(0, 0, 1, 2), likes[i]);
            check.due("kept", x.tour(0, 0, 1, 0), likes[i] * keeps[i]);
            check.due("offered", x.tour(0, 0, 1, 1), likes[i] * keeps[i] > 0 ? offers[i] : 0);
        }
    }
}
