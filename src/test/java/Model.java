import java.util.ArrayList;
import java.util.Arrays;
import java.util.List;
import java.util.function.IntSupplier;
import java.util.function.IntUnaryOperator;

/**
 * The document once more, told as slowly and as directly as can be, by other means than the class: texts are trees
 * cut at their loosest sign, faults are found without reading trees, sheets are arrays of bytes, shorts, ints, and
 * what is supposed is done and undone.
 */
final class Model {
    static final long NO = -4611686018427387904L;

    /** A viewer: kind, more, rich, quiet. */
    private List<int[]> viewers = new ArrayList<>();
    private int[] light = new int[6], damp = new int[6];
    private int hour = 6, law;
    private final List<Node[]> texts = new ArrayList<>();
    private StringBuilder tape = new StringBuilder();
    private final Object[] sheets = new Object[4];
    private List<int[]> keptViewers;
    private int[] keptLight, keptDamp;
    private int keptHour, keptLaw;

    Model() {
        texts.add(trees(tokens("likes light - damp ; keeps 1 ; offers rich ;")));
    }

    // ---- texts

    private record Token(String word, int place) { }

    private interface Node { int value(int[] names); }

    private static final List<String> NAMES = List.of("light", "damp", "room", "hour", "crowd", "rich");
    private static final List<String> KEYS = List.of("likes", "keeps", "offers", "or", "and", "not");

    private static List<Token> tokens(String text) {
        List<Token> all = new ArrayList<>();
        java.util.regex.Matcher m = java.util.regex.Pattern.compile("[a-z]+|[0-9]+|[^a-z0-9 \n]", java.util.regex.Pattern.DOTALL)
            .matcher(text);
        while (m.find()) {
            all.add(new Token(m.group(), m.start()));
        }
        return all;
    }

    private static boolean isOperand(String w) {
        return w.matches("[0-9]{1,4}") || NAMES.contains(w);
    }

    /** The place of the fault, or -1: what may follow is known by what was ahead and by what is open. */
    static int fault(String text) {
        List<Token> all = tokens(text);
        int part = 0;
        // what is due: "key", "any" (a not, too), "one" (no not), "sign"
        String due = "key";
        StringBuilder open = new StringBuilder();   // of ( n - ; and of 'c' where a comparison has been
        for (Token t : all) {
            String w = t.word;
            boolean stands = false;
            int opens = (int) open.chars().filter(c -> c != 'c').count();
            if (due.equals("key")) {
                stands = part < 3 && w.equals(KEYS.get(part));
                due = "any";
            } else if (due.equals("any") || due.equals("one")) {
                if (isOperand(w)) {
                    stands = true;
                    endOne(open);
                    due = "sign";
                } else if (w.equals("(") && opens < 5) {
                    stands = true;
                    open.append('(');
                    due = "any";
                } else if (w.equals("-") && opens < 5) {
                    stands = true;
                    open.append('-');
                    due = "one";
                } else if (w.equals("not") && due.equals("any") && opens < 5) {
                    stands = true;
                    open.append('n');
                }
            } else if (w.equals("*") || w.equals("+") || w.equals("-")) {
                stands = true;
                due = "one";
            } else if (w.equals("<") || w.equals("=")) {
                stands = open.length() == 0 || open.charAt(open.length() - 1) != 'c';
                open.append('c');
                due = "one";
            } else if (w.equals("and") || w.equals("or")) {
                stands = true;
                endNots(open);
                due = "any";
            } else if (w.equals(")")) {
                endNots(open);
                stands = open.length() > 0;
                if (stands) {
                    open.setLength(open.length() - 1);
                    endOne(open);
                }
            } else if (w.equals(";")) {
                endNots(open);
                stands = open.length() == 0;
                part++;
                due = "key";
            }
            if (!stands) return t.place;
        }
        return part == 3 ? -1 : text.length();
    }

    private static void endOne(StringBuilder open) {
        while (open.length() > 0 && open.charAt(open.length() - 1) == '-') {
            open.setLength(open.length() - 1);
        }
    }

    private static void endNots(StringBuilder open) {
        while (open.length() > 0 && open.charAt(open.length() - 1) != '(') {
            open.setLength(open.length() - 1);
        }
    }

    private static Node[] trees(List<Token> all) {
        Node[] parts = new Node[3];
        int part = 0;
        List<String> now = new ArrayList<>();
        for (Token t : all) {
            if (t.word.equals(";")) {
                parts[part++] = tree(now.subList(1, now.size()));
                now = new ArrayList<>();
            } else {
                now.add(t.word);
            }
        }
        return parts;
    }

    /** Cuts a row at its last loosest sign outside of all brackets. */
    private static Node tree(List<String> row) {
        for (List<String> signs : List.of(List.of("or"), List.of("and"))) {
            int cut = lastOf(row, signs);
            if (cut >= 0) return joined(row, cut);
        }
        if (row.get(0).equals("not")) {
            Node of = tree(row.subList(1, row.size()));
            return n -> of.value(n) != 0 ? 0 : 1;
        }
        for (List<String> signs : List.of(List.of("<", "="), List.of("+", "-"), List.of("*"))) {
            int cut = lastOf(row, signs);
            if (cut >= 0) return joined(row, cut);
        }
        String first = row.get(0);
        if (first.equals("-")) {
            Node of = tree(row.subList(1, row.size()));
            return n -> -of.value(n);
        }
        if (first.equals("(")) return tree(row.subList(1, row.size() - 1));
        int name = NAMES.indexOf(first);
        if (name >= 0) return n -> n[name];
        int number = Integer.parseInt(first);
        return n -> number;
    }

    private static int lastOf(List<String> row, List<String> signs) {
        int deep = 0;
        int cut = -1;
        for (int i = 0; i < row.size(); i++) {
            String w = row.get(i);
            if (w.equals("(")) deep++;
            if (w.equals(")")) deep--;
            // A minus behind nothing, a sign or a bracket is no minus between two.
            boolean between = i > 0 && (isOperand(row.get(i - 1)) || row.get(i - 1).equals(")"));
            if (deep == 0 && signs.contains(w) && between) cut = i;
        }
        return cut;
    }

    private static Node joined(List<String> row, int cut) {
        Node a = tree(row.subList(0, cut));
        Node b = tree(row.subList(cut + 1, row.size()));
        switch (row.get(cut)) {
            case "or": return n -> a.value(n) != 0 | b.value(n) != 0 ? 1 : 0;
            case "and": return n -> a.value(n) != 0 & b.value(n) != 0 ? 1 : 0;
            case "<": return n -> a.value(n) < b.value(n) ? 1 : 0;
            case "=": return n -> a.value(n) == b.value(n) ? 1 : 0;
            case "+": return n -> a.value(n) + b.value(n);
            case "-": return n -> a.value(n) - b.value(n);
            default: return n -> a.value(n) * b.value(n);
        }
    }

    private static final int[] LEAST = {-99, 0, 0}, MOST = {99, 9, 999};

    private int says(int part, int[] viewer, int r, int crowd) {
        int[] names = {part == 2 ? 0 : light[r], part == 2 ? 0 : damp[r], part == 2 ? 0 : r, hour, crowd, viewer[2]};
        return Math.max(LEAST[part], Math.min(MOST[part], texts.get(law)[part].value(names)));
    }

    // ---- kinds

    private static final int[] ABOVE = {-1, 0, 0, 1, 2, 0};

    private int likes(int kind, int[] viewer, int r, int crowd) {
        int text = says(0, viewer, r, crowd);
        int likes;
        if (kind == 5) {
            likes = r == viewer[1] % 6 ? 99 : 0;
        } else if (kind == 3) {
            likes = text < 0 ? 2 * likes(1, viewer, r, crowd) : likes(1, viewer, r, crowd);
        } else if (kind == 1) {
            likes = r == 0 ? likes(0, viewer, r, crowd) - 2 * viewer[1] : likes(0, viewer, r, crowd);
        } else {
            likes = kind == 0 ? text : likes(ABOVE[kind], viewer, r, crowd);
        }
        return Math.max(-99, Math.min(99, likes));
    }

    private int keeps(int kind, int[] viewer, int r, int place, int size, int crowd) {
        int text = says(1, viewer, r, crowd);
        if (kind == 0) return text;
        if (kind == 1) return place == 0 ? 2 * text : keeps(0, viewer, r, place, size, crowd);
        if (kind == 2) return keeps(0, viewer, r, place, size, crowd) + (place == size - 1 ? viewer[1] : 0);
        if (kind == 4 && likes(kind, viewer, r, crowd) < 0) return text + 3;
        return keeps(ABOVE[kind], viewer, r, place, size, crowd);
    }

    private int offers(int kind, int[] viewer, int mind, int crowd) {
        int text = says(2, viewer, 0, crowd);
        int offers;
        switch (kind) {
            case 0: offers = mind > 0 ? text : 0; break;
            case 2: offers = offers(0, viewer, mind, crowd) + (crowd > 2 ? 10 * crowd : 0); break;
            case 3: offers = offers(1, viewer, mind, crowd) + mind; break;
            case 4: offers = offers(2, viewer, mind, crowd) / 2; break;
            case 5: offers = 0; break;
            default: offers = offers(ABOVE[kind], viewer, mind, crowd);
        }
        return Math.max(0, offers);
    }

    private int mind(int v, List<Integer> tour, int crowd) {
        int[] viewer = viewers.get(v);
        int sum = 0;
        for (int i = 0; i < tour.size(); i++) {
            int r = tour.get(i);
            sum += likes(viewer[0], viewer, r, crowd) * keeps(viewer[0], viewer, r, i, tour.size(), crowd);
        }
        return sum;
    }

    private int offer(int v, List<Integer> tour, int crowd) {
        return offers(viewers.get(v)[0], viewers.get(v), mind(v, tour, crowd), crowd);
    }

    // ---- calls

    int count(int what) {
        int[] all = {viewers.size(), hour, texts.size(), law, tape.length()};
        return what < 0 || what > 4 ? -2 : all[what];
    }

    int hours(int h) {
        if (h < 0 || h > 11) return -2;
        int was = hour;
        hour = h;
        return was;
    }

    int room(int r, int what, int v) {
        if (r < 0 || r > 5) return -5;
        if (what < 0 || what > 1 || v < 0 || v > 99) return -7;
        int was = told(r, what);
        (what == 0 ? light : damp)[r] = v;
        return was;
    }

    int told(int r, int what) {
        if (r < 0 || r > 5) return -5;
        return what == 0 ? light[r] : what == 1 ? damp[r] : -7;
    }

    int feed(int n, int a, int b, int c, int d, int e) {
        int[] five = {a, b, c, d, e};
        if (n < 1 || n > 5 || Arrays.stream(five).anyMatch(x -> x < 0 || x > 255)) return -2;
        if (tape.length() + n > 160) return -4;
        for (int i = 0; i < n; i++) {
            tape.append((char) five[i]);
        }
        return tape.length();
    }

    int text() {
        if (texts.size() == 6) return -4;
        String text = tape.toString();
        tape = new StringBuilder();
        int fault = fault(text);
        if (fault >= 0) return -100 - fault;
        texts.add(trees(tokens(text)));
        return texts.size() - 1;
    }

    int force(int t) {
        if (t < 0 || t >= texts.size()) return -2;
        int was = law;
        law = t;
        return was;
    }

    int asks(int part, int v, int r, int crowd) {
        if (part < 0 || part > 2 || !is(v) || r < 0 || r > 5 || crowd < 1 || crowd > 8) return -1000;
        return says(part, viewers.get(v), r, crowd);
    }

    int viewer(int kindMore, int richQuiet) {
        if (kindMore < 0 || kindMore > 59 || richQuiet < 0 || richQuiet > 99999) return -2;
        if (viewers.size() == 8) return -4;
        viewers.add(new int[] {kindMore / 10, kindMore % 10, richQuiet / 100, richQuiet % 100});
        return viewers.size() - 1;
    }

    int put(int v, int what, int to) {
        if (!is(v)) return -5;
        if (what < 0 || what > 1 || to < 0 || to > (what == 0 ? 999 : 99)) return -7;
        int was = viewers.get(v)[2 + what];
        viewers.get(v)[2 + what] = to;
        return was;
    }

    int one(int v, int what) {
        if (!is(v)) return -5;
        return what < 0 || what > 3 ? -7 : viewers.get(v)[(what + 2) % 4];
    }

    private boolean is(int v) {
        return v >= 0 && v < viewers.size();
    }

    private int[] row(int s) {
        Object row = sheets[s];
        if (row instanceof int[] ints) return ints;
        int[] as = new int[java.lang.reflect.Array.getLength(row)];
        for (int i = 0; i < as.length; i++) {
            as[i] = row instanceof byte[] bytes ? bytes[i] : ((short[]) row)[i];
        }
        return as;
    }

    /** The tour that a sheet tells, or null. */
    private List<Integer> tourOf(int s) {
        List<Integer> tour = new ArrayList<>();
        for (int r : row(s)) {
            if (r < 0 || r > 5 || tour.contains(r)) return null;
            tour.add(r);
        }
        return tour;
    }

    int refusal(int s) {
        if (s < 0 || s > 3) return -2;
        if (sheets[s] == null) return -11;
        return tourOf(s) == null ? -2 : 0;
    }

    int tour(int s, int v, int crowd, int what) {
        if (refusal(s) != 0) return -1000000 + refusal(s);
        if (!is(v) || crowd < 1 || crowd > 8 || what < 0 || what > 2) return -1000007;
        List<Integer> tour = tourOf(s);
        if (what == 0) return mind(v, tour, crowd);
        if (what == 1) return offer(v, tour, crowd);
        return tour.isEmpty() ? 0 : likes(viewers.get(v)[0], viewers.get(v), tour.get(tour.size() - 1), crowd);
    }

    private List<Integer> members(int some) {
        List<Integer> who = new ArrayList<>();
        for (int v = 0; v < 8; v++) {
            if ((some & 1 << v) != 0) who.add(v);
        }
        return who;
    }

    int shown(int s, int some, int what) {
        if (refusal(s) != 0) return refusal(s);
        if (some < 0 || some >= Math.pow(2, viewers.size()) || what < 0 || what > 2) return -7;
        List<Integer> who = members(some);
        List<int[]> offers = new ArrayList<>();
        for (int v : who) {
            offers.add(new int[] {v, offer(v, tourOf(s), who.size())});
        }
        offers.sort((a, b) -> b[1] - a[1]);
        if (what == 0) return offers.isEmpty() ? -1 : offers.get(0)[0];
        if (what == 1) return offers.isEmpty() ? 0 : offers.get(0)[1];
        return offers.size() < 2 ? 0 : offers.get(1)[1];
    }

    private static void orders(List<Integer> ahead, int n, List<List<Integer>> all) {
        if (ahead.size() == n) all.add(new ArrayList<>(ahead));
        for (int i = 0; i < n; i++) {
            if (ahead.contains(i)) continue;
            ahead.add(i);
            orders(ahead, n, all);
            ahead.remove(ahead.size() - 1);
        }
    }

    private static List<List<Integer>> orders(int n) {
        List<List<Integer>> all = new ArrayList<>();
        orders(new ArrayList<>(), n, all);
        return all;
    }

    private static int digits(List<Integer> order) {
        StringBuilder digits = new StringBuilder();
        for (int r : order) {
            digits.append(r + 1);
        }
        return Integer.parseInt(digits.toString());
    }

    int best(int v, int crowd, int what) {
        if (v != -1 && !is(v)) return -1000005;
        if (crowd < 1 || crowd > 8 || what < 0 || what > 1) return -1000007;
        List<int[]> all = new ArrayList<>();
        for (List<Integer> order : orders(6)) {
            int sum = 0;
            for (int u = 0; u < viewers.size(); u++) {
                if (v == -1 || v == u) sum += mind(u, order, crowd);
            }
            all.add(new int[] {digits(order), sum});
        }
        all.sort((a, b) -> a[1] != b[1] ? b[1] - a[1] : a[0] - b[0]);
        return all.get(0)[what];
    }

    /** An answer, were it that hour. */
    private int at(int h, IntSupplier asked) {
        int was = hour;
        hour = h;
        int answer = asked.getAsInt();
        hour = was;
        return answer;
    }

    int when(int s, int some, int what) {
        if (refusal(s) != 0) return refusal(s);
        if (some < 0 || some >= Math.pow(2, viewers.size()) || what < 0 || what > 1) return -7;
        int most = -1, first = -1;
        for (int h = 0; h < 12; h++) {
            int offer = at(h, () -> shown(s, some, 1));
            if (offer > most) {
                most = offer;
                first = h;
            }
        }
        return what == 0 ? first : most;
    }

    int together(int s, int what) {
        if (refusal(s) != 0) return refusal(s);
        if (what < 0 || what > 1) return -7;
        int who = 0, most = 0;
        for (int some = 1; some < 1 << viewers.size(); some++) {
            int offer = shown(s, some, 1);
            boolean fewer = offer == most && offer > 0 && members(some).size() < members(who).size();
            if (offer > most || fewer) {
                who = some;
                most = offer;
            }
        }
        return what == 0 ? who : most;
    }

    int without(int s, int v, int what) {
        if (refusal(s) != 0) return -1000000 + refusal(s);
        if (!is(v) || what < 0 || what > 1) return -1000007;
        List<Integer> tour = tourOf(s);
        int most = mind(v, tour, 1), room = -1;
        for (int r : tour) {
            List<Integer> rest = new ArrayList<>(tour);
            rest.remove(Integer.valueOf(r));
            if (mind(v, rest, 1) > most) {
                most = mind(v, rest, 1);
                room = r;
            }
        }
        return what == 0 ? room : most;
    }

    int paint(int s, int v, int r) {
        if (refusal(s) != 0) return -1000000 + refusal(s);
        if (!is(v) || r < 0 || r > 5) return -1000005;
        int before = offer(v, tourOf(s), 1);
        int was = damp[r];
        damp[r] = 0;
        int after = offer(v, tourOf(s), 1);
        damp[r] = was;
        return after - before;
    }

    int tenant(int s, int quiet1, int least) {
        if (refusal(s) != 0) return refusal(s);
        if (quiet1 < 0 || quiet1 > 99 || least < 0 || least > 9999) return -7;
        List<int[]> all = new ArrayList<>();
        for (int v = 0; v < viewers.size(); v++) {
            int offer = offer(v, tourOf(s), 1);
            if (viewers.get(v)[3] >= quiet1 && offer >= least) all.add(new int[] {v, offer, viewers.get(v)[3]});
        }
        all.sort((a, b) -> a[1] != b[1] ? b[1] - a[1] : a[2] != b[2] ? b[2] - a[2] : a[0] - b[0]);
        return all.isEmpty() ? -1 : all.get(0)[0];
    }

    private static long lowest(int above, int below, int part) {
        int common = 1;
        for (int k = 2; k <= below; k++) {
            if (above % k == 0 && below % k == 0) common = k;
        }
        return (part == 0 ? above : below) / common;
    }

    long waits(int s, int n, int skip, int part) {
        if (refusal(s) != 0 || n < 1 || n > 6 || n > viewers.size()) return NO;
        if (skip < 0 || skip > n - 1 || part < 0 || part > 1) return NO;
        int[] offers = new int[n];
        for (int v = 0; v < n; v++) {
            offers[v] = offer(v, tourOf(s), 1);
        }
        int most = Arrays.stream(offers).max().getAsInt();
        int above = 0;
        List<List<Integer>> all = orders(n);
        for (List<Integer> order : all) {
            int taken = n - 1;
            for (int i = n - 1; i >= skip; i--) {
                int offer = offers[order.get(i)];
                if (order.subList(0, i).stream().allMatch(v -> offers[v] < offer)) taken = i;
            }
            if (offers[order.get(taken)] == most) above++;
        }
        return lowest(above, all.size(), part);
    }

    int judge(int s, int told, int v) {
        if (s < 0 || s > 3 || told < 0 || told > 3) return -2;
        if (sheets[s] == null || sheets[told] == null) return -11;
        if (tourOf(s) == null || row(told).length > 12) return -2;
        if (!is(v)) return -5;
        for (int h = 0; h < row(told).length; h++) {
            if (at(h, () -> offer(v, tourOf(s), 1)) != row(told)[h]) return h;
        }
        return -1;
    }

    /** Which of 0 .. size less 1 fit, each tried (the trying gives back what it was) and undone. */
    private List<Integer> fitting(int s, int told, int v, int size, IntUnaryOperator set) {
        List<Integer> fit = new ArrayList<>();
        int was = set.applyAsInt(0);
        for (int x = 0; x < size; x++) {
            set.applyAsInt(x);
            if (judge(s, told, v) == -1) fit.add(x);
        }
        set.applyAsInt(was);
        return fit;
    }

    private static int bits(List<Integer> some) {
        return some.stream().mapToInt(x -> 1 << x).sum();
    }

    private static int manyOrLeast(List<Integer> fit, int what) {
        return what == 0 ? fit.size() : fit.isEmpty() ? -1 : fit.get(0);
    }

    private static IntUnaryOperator into(int[] row, int i) {
        return x -> {
            int was = row[i];
            row[i] = x;
            return was;
        };
    }

    int kinds(int s, int told, int v, int sort) {
        int refused = judge(s, told, v);
        if (refused < -1) return refused;
        if (sort < 0 || sort > 1) return -7;
        return bits(fitting(s, told, v, sort == 0 ? 6 : 10, into(viewers.get(v), sort)));
    }

    int riches(int s, int told, int v, int what) {
        int refused = judge(s, told, v);
        if (refused < -1) return refused;
        if (what < 0 || what > 1) return -7;
        return manyOrLeast(fitting(s, told, v, 1000, into(viewers.get(v), 2)), what);
    }

    int rooms(int s, int told, int v, int roomSortWhat) {
        int refused = judge(s, told, v);
        if (refused < -1) return refused;
        for (int r = 0; r < 6; r++) {
            for (int sort = 0; sort < 2; sort++) {
                for (int what = 0; what < 2; what++) {
                    if (roomSortWhat != 100 * r + 10 * sort + what) continue;
                    return manyOrLeast(fitting(s, told, v, 100, into(sort == 0 ? light : damp, r)), what);
                }
            }
        }
        return -7;
    }

    int laws(int s, int told, int v) {
        int refused = judge(s, told, v);
        if (refused < -1) return refused;
        return bits(fitting(s, told, v, texts.size(), x -> {
            int was = law;
            law = x;
            return was;
        }));
    }

    int film(int s, int told, int v) {
        if (s < 0 || s > 3 || told < 0 || told > 3 || s == told) return -2;
        if (refusal(s) != 0) return refusal(s);
        if (!is(v)) return -5;
        int[] film = new int[12];
        for (int h = 0; h < 12; h++) {
            film[h] = at(h, () -> offer(v, tourOf(s), 1));
        }
        sheets[told] = film;
        return film[hour];
    }

    private static List<Integer> drawnOrder(int seed) {
        List<Integer> order = new ArrayList<>(List.of(0, 1, 2, 3, 4, 5));
        java.math.BigInteger factor = java.math.BigInteger.valueOf(48271), modulus = java.math.BigInteger.valueOf(2147483647);
        java.math.BigInteger lot = java.math.BigInteger.valueOf(seed).add(java.math.BigInteger.ONE);
        for (int k = 5; k >= 1; k--) {
            lot = lot.multiply(factor).mod(modulus);
            java.util.Collections.swap(order, k, lot.mod(java.math.BigInteger.valueOf(k + 1)).intValue());
        }
        return order;
    }

    int drawn(int seed, int v, int what) {
        if (seed < 0 || seed > 99999 || !is(v) || what < 0 || what > 2) return -1000007;
        List<Integer> order = drawnOrder(seed);
        return what == 0 ? digits(order) : what == 1 ? mind(v, order, 1) : offer(v, order, 1);
    }

    long odds(int seed, int seeds, int vLeast, int part) {
        if (seed < 0 || seed > 99999 || seeds < 1 || seeds > 40 || vLeast < 0) return NO;
        if (!is(vLeast / 10000) || part < 0 || part > 1) return NO;
        int above = 0;
        for (int k = 0; k < seeds; k++) {
            if (offer(vLeast / 10000, drawnOrder(seed + k), 1) >= vLeast % 10000) above++;
        }
        return lowest(above, seeds, part);
    }

    int image() {
        keptViewers = new ArrayList<>();
        for (int[] viewer : viewers) {
            keptViewers.add(viewer.clone());
        }
        keptLight = light.clone();
        keptDamp = damp.clone();
        keptHour = hour;
        keptLaw = law;
        return viewers.size();
    }

    int back() {
        if (keptViewers == null) return -3;
        viewers = new ArrayList<>();
        for (int[] viewer : keptViewers) {
            viewers.add(viewer.clone());
        }
        light = keptLight.clone();
        damp = keptDamp.clone();
        hour = keptHour;
        law = keptLaw;
        return viewers.size();
    }

    int sheet(int s, int sort, int n) {
        if (s < 0 || s > 3 || sort < -1 || sort > 2) return -2;
        if (sort == -1) {
            sheets[s] = null;
            return 1;
        }
        if (n > 40) return -2;
        if (n < 0) return -14;
        sheets[s] = sort == 0 ? new byte[n] : sort == 1 ? new short[n] : new int[n];
        return 1;
    }

    int cell(int s, int i, int v) {
        if (s < 0 || s > 3) return -2;
        if (sheets[s] == null) return -11;
        if (i < 0 || i >= row(s).length) return -12;
        if (sheets[s] instanceof byte[] bytes) bytes[i] = (byte) v;
        if (sheets[s] instanceof short[] shorts) shorts[i] = (short) v;
        if (sheets[s] instanceof int[] ints) ints[i] = v;
        return 1;
    }

    int copy(int s, int i, int other, int j, int n) {
        if (s < 0 || s > 3 || other < 0 || other > 3) return -2;
        if (sheets[s] == null || sheets[other] == null) return -11;
        if (sheets[s].getClass() != sheets[other].getClass()) return -13;
        int[] from = row(s).clone();
        if (i < 0 || j < 0 || n < 0 || (long) i + n > from.length || (long) j + n > row(other).length) return -12;
        for (int k = 0; k < n; k++) {
            cell(other, j + k, from[i + k]);
        }
        return n;
    }

    int viewersBy(int s, int sort, int from, int n) {
        if (s < 0 || s > 3 || sort < 0 || sort > 2 || n < 0 || n > 8) return -2;
        if (sheets[s] == null) return -11;
        if (sheets[s] instanceof byte[] ? sort != 0 : sheets[s] instanceof short[] ? sort != 1 : sort != 2) return -13;
        int came = 0;
        for (long i = from; i < from + 2L * n; i += 2) {
            if (i < 0 || i + 1 >= row(s).length) return -12;
            if (viewer(row(s)[(int) i], row(s)[(int) i + 1]) >= 0) came++;
        }
        return came;
    }

    int taken(int i, int kind) {
        if (kind < 0 || kind > 6) return -2;
        if (i < 0 || i > 15) return -12;
        if (!is(i % 8)) return -11;
        if ((i >= 8) != (kind == 6)) return -13;
        if (kind == 6) return viewers.get(i - 8)[3];
        for (int k = viewers.get(i)[0]; k >= 0; k = ABOVE[k]) {
            if (k == kind) return i;
        }
        return -13;
    }
}
