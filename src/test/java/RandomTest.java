import java.util.Random;

/** Runs of 512 random calls, each answered by the class and by Model; the seeds are fixed (how many may be told). */
public final class RandomTest {
    private static final int RUNS = 400, CALLS = 512;

    private final Random random;
    private final FlatToLet x = new FlatToLet();
    private final Model m = new Model();
    private final Check check;
    private final int run;
    private int calls;

    private RandomTest(int run, Check check) {
        this.run = run;
        this.random = new Random(20261118L + run);
        this.check = check;
    }

    public static void main(String[] args) {
        Check check = new Check();
        int runs = args.length > 0 ? Integer.parseInt(args[0]) : RUNS;
        for (int run = 0; run < runs; run++) {
            new RandomTest(run, check).go();
        }
        check.end();
    }

    private void due(String call, long got, long want) {
        calls++;
        if (calls > CALLS) return;
        check.due("run " + run + ", call " + calls + ": " + call, got, want);
    }

    private void go() {
        int start = random.nextInt(9);
        for (int v = 0; v < start; v++) newViewer();
        for (int i = 0; i < 8; i++) newRoom();
        for (int s = 0; s < 3; s++) newTour(s);
        if (random.nextBoolean()) newText();
        while (calls < CALLS) {
            if (random.nextInt(3) == 0) change(); else ask();
        }
    }

    // ---- numbers: mostly such as can be, now and then beside, seldom wild

    private int some(int least, int most) {
        int dice = random.nextInt(120);
        if (dice == 0) return random.nextInt();
        if (dice == 1) return new int[] {Integer.MIN_VALUE, Integer.MAX_VALUE, Integer.MIN_VALUE + 1}[random.nextInt(3)];
        if (dice < 4) return least - 1;
        if (dice < 6) return most + 1;
        if (dice < 12) return least;
        if (dice < 18) return most;
        return least + random.nextInt(most - least + 1);
    }

    /** A sheet that mostly tells a tour. */
    private int anyTour() {
        int s = some(0, 3);
        if (m.refusal(s) != 0 && random.nextInt(8) > 0) {
            s = random.nextInt(4);
            if (m.refusal(s) != 0) newTour(s);
        }
        return s;
    }

    private int viewers() {
        return Math.max(0, m.count(0));
    }

    private int anyViewer() {
        return some(0, Math.max(0, viewers() - 1));
    }

    // ---- changes

    private void change() {
        switch (random.nextInt(12)) {
            case 0: newViewer(); break;
            case 1: newRoom(); break;
            case 2: { int h = some(0, 11); due("hours(" + h + ")", x.hours(h), m.hours(h)); break; }
            case 3: newText(); break;
            case 4: { int t = some(0, m.count(2) - 1); due("force(" + t + ")", x.force(t), m.force(t)); break; }
            case 5: { int v = anyViewer(), w = some(0, 1), to = some(0, w == 0 ? 999 : 99);
                due("put(" + v + ", " + w + ", " + to + ")", x.put(v, w, to), m.put(v, w, to)); break; }
            case 6: newTour(random.nextInt(4)); break;
            case 7: newSheet(); break;
            case 8: newCopy(); break;
            case 9: newViewersBy(); break;
            case 10: if (random.nextInt(3) == 0) due("image()", x.image(), m.image()); else newRoom(); break;
            default: if (random.nextInt(3) == 0) due("back()", x.back(), m.back()); else film(); break;
        }
    }

    private void newViewer() {
        int k = some(0, 59), r = random.nextInt(3) == 0 ? some(0, 99999) : 100 * random.nextInt(1000) + 25 * random.nextInt(4);
        due("viewer(" + k + ", " + r + ")", x.viewer(k, r), m.viewer(k, r));
    }

    private void newRoom() {
        int r = some(0, 5), w = some(0, 1), v = some(0, 99);
        due("room(" + r + ", " + w + ", " + v + ")", x.room(r, w, v), m.room(r, w, v));
    }

    private void newTour(int s) {
        int n = random.nextInt(7), sort = random.nextInt(3);
        sheet(s, random.nextInt(4) == 0 ? sort : 2, n);
        int from = random.nextInt(6), step = random.nextBoolean() ? 1 : 5;
        for (int i = 0; i < n; i++) {
            int r = random.nextInt(40) == 0 ? some(0, 5) : (from + i * step) % 6;
            cell(s, i, r);
        }
        if (n > 1 && random.nextBoolean()) {
            int i = random.nextInt(n), j = random.nextInt(n);
            int a = (from + i * step) % 6, b = (from + j * step) % 6;
            cell(s, i, b);
            cell(s, j, a);
        }
    }

    private void sheet(int s, int sort, int n) {
        due("sheet(" + s + ", " + sort + ", " + n + ")", x.sheet(s, sort, n), m.sheet(s, sort, n));
    }

    private void cell(int s, int i, int v) {
        due("cell(" + s + ", " + i + ", " + v + ")", x.cell(s, i, v), m.cell(s, i, v));
    }

    private void newSheet() {
        int s = some(0, 3), n = random.nextInt(3) == 0 ? some(0, 40) : some(0, 13);
        sheet(s, some(-1, 2), n);
        for (int k = random.nextInt(4); k > 0; k--) {
            cell(some(0, 3), some(0, 8), random.nextBoolean() ? some(0, 300) : some(-70000, 70000));
        }
    }

    private void newCopy() {
        int s = some(0, 3), o = random.nextInt(3) == 0 ? s : some(0, 3), i = some(0, 6), j = some(0, 6), n = some(0, 8);
        due("copy(" + s + ", " + i + ", " + o + ", " + j + ", " + n + ")", x.copy(s, i, o, j, n), m.copy(s, i, o, j, n));
    }

    private void newViewersBy() {
        int s = some(0, 3), sort = some(0, 2);
        if (random.nextInt(3) > 0 && s >= 0 && s < 4) {
            sheet(s, sort, 2 + random.nextInt(7));
            for (int i = 0; i < 8; i++) {
                cell(s, i, i % 2 == 0 ? some(0, 59) : some(0, sort == 0 ? 127 : sort == 1 ? 32767 : 99999));
            }
        }
        int from = some(0, 4), n = random.nextInt(3) == 0 ? some(0, 8) : random.nextInt(4);
        due("viewersBy(" + s + ", " + sort + ", " + from + ", " + n + ")", x.viewersBy(s, sort, from, n), m.viewersBy(s, sort, from, n));
    }

    private void film() {
        int s = anyTour(), t = (s + some(1, 3)) % 4, v = anyViewer();
        due("film(" + s + ", " + t + ", " + v + ")", x.film(s, t, v), m.film(s, t, v));
    }

    // ---- texts

    private void newText() {
        if (m.count(2) == 6 && random.nextInt(4) > 0) return;
        StringBuilder text = new StringBuilder();
        String[] keys = {"likes", "keeps", "offers"};
        boolean usual = random.nextBoolean();
        for (String key : keys) {
            text.append(key).append(random.nextInt(20) == 0 ? "" : " ");
            if (key.equals("likes") && usual) text.append("light - damp + ");
            if (key.equals("keeps") && usual) text.append("1 + ");
            if (key.equals("offers") && usual) text.append("rich + ");
            expression(text, usual ? 0 : random.nextInt(4));
            text.append(blank()).append(';').append(blank());
        }
        if (random.nextInt(3) == 0) spoil(text);
        String all = text.substring(0, Math.min(text.length(), 160 + random.nextInt(5)));
        for (int i = 0; i < all.length(); i += 5) {
            int[] b = new int[5];
            int n = Math.min(5, all.length() - i);
            for (int k = 0; k < n; k++) b[k] = all.charAt(i + k);
            due("feed(" + n + ", ..)", x.feed(n, b[0], b[1], b[2], b[3], b[4]), m.feed(n, b[0], b[1], b[2], b[3], b[4]));
        }
        due("text() of " + all.replace("\n", "\\n"), x.text(), m.text());
        if (random.nextInt(3) > 0) {
            int t = m.count(2) - 1;
            due("force(" + t + ")", x.force(t), m.force(t));
        }
    }

    private String blank() {
        return new String[] {"", " ", "\n", "  "}[random.nextInt(4)];
    }

    private void expression(StringBuilder text, int deep) {
        String[] joins = {"+", "-", "*", "<", "=", " and ", " or ", "+", "-", "+"};
        int parts = 1 + random.nextInt(3);
        for (int p = 0; p < parts; p++) {
            if (p > 0) text.append(blank()).append(joins[random.nextInt(joins.length)]).append(blank());
            int dice = random.nextInt(14);
            if (dice == 0) text.append("not ");
            if (dice < 3) text.append("-");
            if (dice == 3 && deep > 0) {
                text.append("(");
                expression(text, deep - 1);
                text.append(")");
            } else if (dice < 7) {
                text.append(random.nextInt(5) == 0 ? random.nextInt(10000) : random.nextInt(12));
            } else {
                text.append(new String[] {"light", "damp", "room", "hour", "crowd", "rich", "light"}[random.nextInt(7)]);
            }
        }
    }

    private void spoil(StringBuilder text) {
        String[] wrong = {"(", ")", ";", "<", "12345", "x", "not", "and", " ", "#", "-", "((((((", "notnot", "- - - - - - 1", "\u00e9"};
        int at = random.nextInt(text.length());
        switch (random.nextInt(3)) {
            case 0: text.setLength(at); break;
            case 1: text.deleteCharAt(at); break;
            default: text.insert(at, wrong[random.nextInt(wrong.length)]); break;
        }
    }

    // ---- questions

    private void ask() {
        switch (random.nextInt(26)) {
            case 0: { int w = some(0, 4); due("count(" + w + ")", x.count(w), m.count(w)); break; }
            case 1: { int r = some(0, 5), w = some(0, 1); due("told(" + r + ", " + w + ")", x.told(r, w), m.told(r, w)); break; }
            case 2: { int p = some(0, 2), v = anyViewer(), r = some(0, 5), c = some(1, 8);
                due("asks(" + p + ", " + v + ", " + r + ", " + c + ")", x.asks(p, v, r, c), m.asks(p, v, r, c)); break; }
            case 3: { int v = anyViewer(), w = some(0, 3); due("one(" + v + ", " + w + ")", x.one(v, w), m.one(v, w)); break; }
            case 4: case 5: { int s = anyTour(), v = anyViewer(), c = some(1, 8), w = some(0, 2);
                due("tour(" + s + ", " + v + ", " + c + ", " + w + ")", x.tour(s, v, c, w), m.tour(s, v, c, w)); break; }
            case 6: case 7: { int s = anyTour(), b = some(0, (1 << viewers()) - 1), w = some(0, 2);
                due("shown(" + s + ", " + b + ", " + w + ")", x.shown(s, b, w), m.shown(s, b, w)); break; }
            case 8: if (random.nextInt(4) == 0) { int v = some(-1, Math.max(0, viewers() - 1)), c = some(1, 8), w = some(0, 1);
                due("best(" + v + ", " + c + ", " + w + ")", x.best(v, c, w), m.best(v, c, w)); } break;
            case 9: { int s = anyTour(), b = some(0, (1 << viewers()) - 1), w = some(0, 1);
                due("when(" + s + ", " + b + ", " + w + ")", x.when(s, b, w), m.when(s, b, w)); break; }
            case 10: { int s = anyTour(), w = some(0, 1);
                due("together(" + s + ", " + w + ")", x.together(s, w), m.together(s, w)); break; }
            case 11: { int s = anyTour(), v = anyViewer(), w = some(0, 1);
                due("without(" + s + ", " + v + ", " + w + ")", x.without(s, v, w), m.without(s, v, w)); break; }
            case 12: { int s = anyTour(), v = anyViewer(), r = some(0, 5);
                due("paint(" + s + ", " + v + ", " + r + ")", x.paint(s, v, r), m.paint(s, v, r)); break; }
            case 13: { int s = anyTour(), q = some(0, 99), l = random.nextInt(2) == 0 ? 0 : some(0, 1200);
                due("tenant(" + s + ", " + q + ", " + l + ")", x.tenant(s, q, l), m.tenant(s, q, l)); break; }
            case 14: { int s = anyTour(), n = some(1, Math.max(1, Math.min(6, viewers()))), k = some(0, Math.max(1, Math.min(n, 6)) - 1), p = some(0, 1);
                due("waits(" + s + ", " + n + ", " + k + ", " + p + ")", x.waits(s, n, k, p), m.waits(s, n, k, p)); break; }
            case 15: film(); break;
            case 16: case 17: case 18: case 19: case 20: askTold(); break;
            case 21: case 22: { int d = some(0, 99999), v = anyViewer(), w = some(0, 2);
                due("drawn(" + d + ", " + v + ", " + w + ")", x.drawn(d, v, w), m.drawn(d, v, w)); break; }
            case 23: case 24: { int d = some(0, 99999), n = some(1, 40), v = 10000 * random.nextInt(Math.max(1, viewers())) + some(0, 900), p = some(0, 1);
                due("odds(" + d + ", " + n + ", " + v + ", " + p + ")", x.odds(d, n, v, p), m.odds(d, n, v, p)); break; }
            default: { int i = some(0, 15), k = some(0, 6); due("taken(" + i + ", " + k + ")", x.taken(i, k), m.taken(i, k)); break; }
        }
    }

    /** A film is taken, then perhaps cut short or something put otherwise, then asked about. */
    private void askTold() {
        int s = anyTour(), t = random.nextInt(20) == 0 ? some(0, 3) : (s + some(1, 3)) % 4, v = anyViewer();
        if (random.nextInt(4) > 0) {
            due("film(" + s + ", " + t + ", " + v + ")", x.film(s, t, v), m.film(s, t, v));
            if (random.nextInt(3) == 0) {
                int o = some(0, 3), n = random.nextInt(6);
                sheet(o, 2, n);
                due("copy(" + t + ", 0, " + o + ", 0, " + n + ")", x.copy(t, 0, o, 0, n), m.copy(t, 0, o, 0, n));
                t = o;
            }
            if (random.nextInt(6) == 0) cell(t, some(0, 11), some(0, 999));
            if (random.nextInt(4) == 0) newRoom();
        }
        for (int k = 0; k < 2; k++) {
            switch (random.nextInt(6)) {
                case 0: due("judge(" + s + ", " + t + ", " + v + ")", x.judge(s, t, v), m.judge(s, t, v)); break;
                case 1: case 2: { int w = some(0, 1);
                    due("kinds(" + s + ", " + t + ", " + v + ", " + w + ")", x.kinds(s, t, v, w), m.kinds(s, t, v, w)); break; }
                case 3: { int w = some(0, 1);
                    due("riches(" + s + ", " + t + ", " + v + ", " + w + ")", x.riches(s, t, v, w), m.riches(s, t, v, w)); break; }
                case 4: { int w = random.nextInt(20) == 0 ? some(0, 511) : 100 * random.nextInt(6) + 10 * random.nextInt(2) + random.nextInt(2);
                    due("rooms(" + s + ", " + t + ", " + v + ", " + w + ")", x.rooms(s, t, v, w), m.rooms(s, t, v, w)); break; }
                default: due("laws(" + s + ", " + t + ", " + v + ")", x.laws(s, t, v), m.laws(s, t, v)); break;
            }
        }
    }
}
