import java.util.Arrays;
import java.util.HashMap;
import java.util.List;
import java.util.Map;

/**
 * "REFUSALS, of several the first one told": each call with every meeting of numbers at, beside and far beyond their
 * bounds, in an empty, a common and a full object. The refusals are told here as each promise tells them.
 * "They change nothing": an object that refused looks like one that was not called; so does one that was only asked.
 */
public final class RefusalTest {
    private static final int BAD = -2, STATE = -3, FULL = -4;
    private static final int MIN = Integer.MIN_VALUE, MAX = Integer.MAX_VALUE;
    private static final int FAR = -1000000;
    private static final long NO = -4611686018427387904L;
    private static final Check check = new Check();

    private interface Call { long of(FlatToLet x, int[] a); }

    /** The refusal that is due, or 0. */
    private interface Rule { long of(int[] a, State at); }

    /** How many viewers, texts and bytes there are, and what each sheet is: its sort or -1, its size, and if it tells a tour. */
    private record State(String name, int viewers, int texts, int bytes, int[] sorts, int[] sizes, boolean[] tours) {
        boolean missing(int s) {
            return sorts[s] < 0;
        }

        boolean nobody(int v) {
            return v < 0 || v >= viewers;
        }

        /** That of a sheet that is to tell a tour. */
        int tour(int s) {
            if (out(s, 0, 3)) return BAD;
            if (missing(s)) return -11;
            return tours[s] ? 0 : BAD;
        }

        /** That of two sheets, which tell a tour and offers, and of a viewer. */
        int told(int s, int told, int v) {
            if (out(s, 0, 3) || out(told, 0, 3)) return BAD;
            if (missing(s) || missing(told)) return -11;
            if (!tours[s] || sizes[told] > 12) return BAD;
            return nobody(v) ? -5 : 0;
        }
    }

    private static final List<State> STATES = List.of(
        new State("empty", 0, 1, 0, new int[] {-1, -1, -1, -1}, new int[4], new boolean[4]),
        new State("common", 3, 3, 24, new int[] {2, 0, -1, 2}, new int[] {2, 12, 0, 13}, new boolean[] {true, false, false, false}),
        new State("full", 8, 5, 158, new int[] {2, 1, 2, 0}, new int[] {6, 40, 2, 2}, new boolean[] {true, false, false, true}));

    private static final Map<String, String> looks = new HashMap<>();

    public static void main(String[] args) {
        check.says("Terms 2", "What is asked changes nothing, but where it is told.");
        for (State at : STATES) looks.put(at.name, Look.at(object(at)));
        lookSees();
        theFlat();
        viewers();
        tours();
        best();
        told();
        lots();
        host();
        others();
        check.end();
    }

    /** Each change of any kind is seen by Look, or it could not tell that nothing changed. */
    private static void lookSees() {
        check.that("looks differ", looks.values().stream().distinct().count() == STATES.size());
        int[][] none = {{}};
        sees("room", (x, a) -> x.room(a[0], a[1], 4), new int[][] {{0, 0}, {0, 1}, {5, 0}, {5, 1}});
        sees("hours", (x, a) -> x.hours(0), none);
        sees("put", (x, a) -> x.put(a[0], a[1], 7), new int[][] {{0, 0}, {0, 1}, {2, 0}, {2, 1}});
        sees("viewer", (x, a) -> x.viewer(0, 0), none);
        sees("force", (x, a) -> x.force(a[0]), new int[][] {{0}, {1}});
        sees("feed", (x, a) -> x.feed(1, a[0], 0, 0, 0, 0), new int[][] {{' '}, {'5'}});
        sees("text", (x, a) -> Math.max(0, x.text()), none);
        sees("image", (x, a) -> x.image(), none);
        sees("back", (x, a) -> x.back(), none);
        sees("film", (x, a) -> x.film(0, a[0], 0), new int[][] {{1}, {2}, {3}});
        sees("cell", (x, a) -> x.cell(a[0], a[1], 1), new int[][] {{0, 0}, {1, 0}, {1, 11}, {3, 0}, {3, 11}, {3, 12}});
        sees("sheet", (x, a) -> x.sheet(a[0], a[1], a[2]), new int[][] {{0, 2, 0}, {0, -1, 0}, {1, 1, 12}, {2, 0, 0}, {3, 2, 12}});
        sees("copy", (x, a) -> x.copy(a[0], a[1], a[2], a[3], 1), new int[][] {{0, 0, 0, 1}, {0, 0, 3, 12}, {3, 12, 0, 0}, {1, 0, 1, 1}});
        sees("viewersBy", (x, a) -> x.viewersBy(1, 0, a[0], 1), new int[][] {{0}, {10}});
    }

    private static void sees(String name, Call call, int[][] numbers) {
        for (int[] a : numbers) {
            FlatToLet x = object(STATES.get(1));
            check.that(name + Arrays.toString(a) + " is one", call.of(x, a) >= 0);
            check.that(name + Arrays.toString(a) + " is seen", !Look.at(x).equals(looks.get("common")));
        }
    }

    private static FlatToLet object(State at) {
        FlatToLet x = new FlatToLet();
        if (at.name.equals("empty")) return x;
        for (int r = 0; r < 6; r++) {
            x.room(r, 0, 20 + 3 * r);
            x.room(r, 1, 30 - 5 * r);
        }
        Check.law(x, "likes light-damp;keeps 2;offers rich+hour;");
        Check.read(x, "likes room;keeps crowd;offers 5;");
        x.viewer(11, 34567);
        x.viewer(39, 20044);
        x.hours(4);
        x.image();
        x.viewer(47, 90001);
        x.hours(8);
        x.force(2);
        x.put(0, 0, 100);
        x.put(1, 1, 99);
        x.room(2, 0, 77);
        x.room(3, 1, 66);
        if (at.name.equals("common")) {
            Check.feed(x, "likes 7;keeps 8;offers 9");
            Check.sheet(x, 0, 2, 4, 1);
            Check.sheet(x, 1, 0, 10, 11, 12, 13, 14, 15, 16, 17, 18, 19, 20, 21);
            Check.sheet(x, 3, 2, 30, 31, 32, 33, 34, 35, 36, 37, 38, 39, 40, 41, 42);
            return x;
        }
        for (int v = 3; v < 8; v++) x.viewer(7 * v, 11111 * v);
        Check.read(x, "likes 3;keeps 3;offers 3;");
        Check.read(x, "likes 4;keeps 4;offers 4;");
        Check.feed(x, "likes 7;keeps 8;offers 9" + " ".repeat(134));
        Check.sheet(x, 0, 2, 5, 3, 1, 0, 2, 4);
        x.sheet(1, 1, 40);
        for (int i = 0; i < 40; i += 2) x.cell(1, i, 10 + i);
        Check.sheet(x, 2, 2, 17, 99999);
        Check.sheet(x, 3, 0, 2, 3);
        return x;
    }

    private static boolean out(int a, int least, int most) {
        return a < least || a > most;
    }

    private static int[] edges(int least, int most, int... more) {
        int[] all = Arrays.copyOf(new int[] {MIN, least - 1, least, most, most + 1, MAX}, 6 + more.length);
        System.arraycopy(more, 0, all, 6, more.length);
        return Arrays.stream(all).distinct().toArray();
    }

    /** Every meeting of these numbers in every state; what is not refused must not answer as if it were. */
    private static void meet(String name, boolean asks, Call call, Rule rule, int[]... numbers) {
        for (State at : STATES) meet(name, asks, call, rule, at, new int[numbers.length], 0, numbers);
    }

    private static void meet(String name, boolean asks, Call call, Rule rule, State at, int[] a, int i, int[][] numbers) {
        if (i < a.length) {
            for (int n : numbers[i]) {
                a[i] = n;
                meet(name, asks, call, rule, at, a, i + 1, numbers);
            }
            return;
        }
        FlatToLet x = object(at);
        String told = at.name + ": " + name + Arrays.toString(a);
        long due = rule.of(a, at);
        long got = call.of(x, a);
        if (due != 0) check.due(told, got, due);
        else check.that(told + " is not refused by " + got, !refuses(got));
        if (due != 0 || asks) check.that(told + " changed nothing", Look.at(x).equals(looks.get(at.name)));
    }

    private static boolean refuses(long got) {
        return got == BAD || got == STATE || got == FULL || got == -5 || got == -7 || got <= -11 && got >= -14 || got == -1000
            || got == FAR + BAD || got == FAR - 5 || got == FAR - 7 || got == FAR - 11 || got == NO;
    }

    // ---- the calls

    private static void theFlat() {
        check.says("Promise 2", "BAD.");
        meet("count", true, (x, a) -> x.count(a[0]), (a, at) -> out(a[0], 0, 4) ? BAD : 0, edges(0, 4));
        check.says("Promise 3", "BAD.");
        meet("hours", false, (x, a) -> x.hours(a[0]), (a, at) -> out(a[0], 0, 11) ? BAD : 0, edges(0, 11));
        check.says("Promise 4", "-5: no such ROOM; -7: what, v.");
        meet("room", false, (x, a) -> x.room(a[0], a[1], a[2]),
            (a, at) -> out(a[0], 0, 5) ? -5 : out(a[1], 0, 1) || out(a[2], 0, 99) ? -7 : 0, edges(0, 5), edges(0, 1), edges(0, 99));
        check.says("Promise 5", "-5: no such ROOM; -7: what.");
        meet("told", true, (x, a) -> x.told(a[0], a[1]),
            (a, at) -> out(a[0], 0, 5) ? -5 : out(a[1], 0, 1) ? -7 : 0, edges(0, 5), edges(0, 1));
        check.says("Promise 6", "BAD: n, any of the five; FULL: they have not all room (none comes).");
        int[] bytes = {-1, 0, 255, 256};
        meet("feed", false, (x, a) -> x.feed(a[0], a[1], a[2], a[3], a[4], a[5]), (a, at) -> {
            if (out(a[0], 1, 5)) return BAD;
            for (int i = 1; i < 6; i++) if (out(a[i], 0, 255)) return BAD;
            return at.bytes + a[0] > 160 ? FULL : 0;
        }, edges(1, 5, 2, 3), bytes, bytes, bytes, bytes, bytes);
        check.says("Promise 8", "BAD.");
        meet("force", false, (x, a) -> x.force(a[0]), (a, at) -> out(a[0], 0, at.texts - 1) ? BAD : 0, edges(0, 5, 1, 2, 3, 4));
        check.says("Promise 9", "-1000: none such.");
        meet("asks", true, (x, a) -> x.asks(a[0], a[1], a[2], a[3]),
            (a, at) -> out(a[0], 0, 2) || at.nobody(a[1]) || out(a[2], 0, 5) || out(a[3], 1, 8) ? -1000 : 0,
            edges(0, 2), edges(0, 7, 2, 3), edges(0, 5), edges(1, 8));
    }

    private static void viewers() {
        check.says("Promise 10", "BAD; FULL.");
        meet("viewer", false, (x, a) -> x.viewer(a[0], a[1]),
            (a, at) -> out(a[0], 0, 59) || out(a[1], 0, 99999) ? BAD : at.viewers == 8 ? FULL : 0, edges(0, 59), edges(0, 99999));
        check.says("Promise 11", "-5: no such VIEWER; -7: what, to.");
        meet("put", false, (x, a) -> x.put(a[0], a[1], a[2]),
            (a, at) -> at.nobody(a[0]) ? -5 : out(a[1], 0, 1) || out(a[2], 0, a[1] == 0 ? 999 : 99) ? -7 : 0,
            edges(0, 7, 2, 3), edges(0, 1), edges(0, 999, 99, 100));
        check.says("Promise 12", "-5: no such VIEWER; -7: what.");
        meet("one", true, (x, a) -> x.one(a[0], a[1]),
            (a, at) -> at.nobody(a[0]) ? -5 : out(a[1], 0, 3) ? -7 : 0, edges(0, 7, 2, 3), edges(0, 3));
    }

    private static int[] sheets() {
        return edges(0, 3, 1, 2);
    }

    private static int[] someViewers() {
        return edges(0, 255, 1, 7, 8);
    }

    private static void tours() {
        check.says("Promise 13", "-1000002: SHEET; -1000011: it is missing; -1000002: it tells no TOUR; -1000007: no such VIEWER, crowd, what.");
        meet("tour", true, (x, a) -> x.tour(a[0], a[1], a[2], a[3]), (a, at) -> {
            if (at.tour(a[0]) != 0) return FAR + at.tour(a[0]);
            return at.nobody(a[1]) || out(a[2], 1, 8) || out(a[3], 0, 2) ? FAR - 7 : 0;
        }, sheets(), edges(0, 7, 2, 3), edges(1, 8), edges(0, 2));
        check.says("Promise 14", "BAD: SHEET; -11; BAD: no TOUR; -7: some, what.");
        meet("shown", true, (x, a) -> x.shown(a[0], a[1], a[2]), (a, at) -> {
            if (at.tour(a[0]) != 0) return at.tour(a[0]);
            return out(a[1], 0, (1 << at.viewers) - 1) || out(a[2], 0, 2) ? -7 : 0;
        }, sheets(), someViewers(), edges(0, 2));
    }

    private static void best() {
        check.says("Promise 15", "-1000005: no such VIEWER; -1000007: crowd, what.");
        meet("best", true, (x, a) -> x.best(a[0], a[1], a[2]), (a, at) -> {
            if (a[0] != -1 && at.nobody(a[0])) return FAR - 5;
            return out(a[1], 1, 8) || out(a[2], 0, 1) ? FAR - 7 : 0;
        }, edges(-1, 7, 0, 2, 3), edges(1, 8), edges(0, 1));
        check.says("Promise 16", "BAD, -11, BAD, -7 likewise.");
        meet("when", true, (x, a) -> x.when(a[0], a[1], a[2]), (a, at) -> {
            if (at.tour(a[0]) != 0) return at.tour(a[0]);
            return out(a[1], 0, (1 << at.viewers) - 1) || out(a[2], 0, 1) ? -7 : 0;
        }, sheets(), someViewers(), edges(0, 1));
        check.says("Promise 17", "BAD, -11, BAD likewise; -7: what.");
        meet("together", true, (x, a) -> x.together(a[0], a[1]),
            (a, at) -> at.tour(a[0]) != 0 ? at.tour(a[0]) : out(a[1], 0, 1) ? -7 : 0, sheets(), edges(0, 1));
        check.says("Promise 18", "-1000002, -1000011, -1000002 likewise; -1000007: no such VIEWER, what.");
        meet("without", true, (x, a) -> x.without(a[0], a[1], a[2]), (a, at) -> {
            if (at.tour(a[0]) != 0) return FAR + at.tour(a[0]);
            return at.nobody(a[1]) || out(a[2], 0, 1) ? FAR - 7 : 0;
        }, sheets(), edges(0, 7, 2, 3), edges(0, 1));
        check.says("Promise 19", "-1000002, -1000011, -1000002 likewise; -1000005: no such VIEWER, ROOM.");
        meet("paint", true, (x, a) -> x.paint(a[0], a[1], a[2]), (a, at) -> {
            if (at.tour(a[0]) != 0) return FAR + at.tour(a[0]);
            return at.nobody(a[1]) || out(a[2], 0, 5) ? FAR - 5 : 0;
        }, sheets(), edges(0, 7, 2, 3), edges(0, 5));
        check.says("Promise 20", "BAD, -11, BAD likewise; -7: quiet1, least.");
        meet("tenant", true, (x, a) -> x.tenant(a[0], a[1], a[2]), (a, at) -> {
            if (at.tour(a[0]) != 0) return at.tour(a[0]);
            return out(a[1], 0, 99) || out(a[2], 0, 9999) ? -7 : 0;
        }, sheets(), edges(0, 99), edges(0, 9999));
        check.says("Promise 21", "NO: none such, no TOUR.");
        meet("waits", true, (x, a) -> x.waits(a[0], a[1], a[2], a[3]), (a, at) -> {
            boolean none = at.tour(a[0]) != 0 || out(a[1], 1, 6) || a[1] > at.viewers || out(a[2], 0, a[1] - 1) || out(a[3], 0, 1);
            return none ? NO : 0;
        }, sheets(), edges(1, 6, 3, 4), edges(0, 5, 1, 2, 3), edges(0, 1));
    }

    private static void told() {
        check.says("Promise 22", "BAD: SHEETS; -11: one is missing; BAD: no TOUR, it tells more than 12; -5: no such VIEWER.");
        meet("judge", true, (x, a) -> x.judge(a[0], a[1], a[2]), (a, at) -> at.told(a[0], a[1], a[2]),
            sheets(), sheets(), edges(0, 7, 2, 3));
        check.says("Promise 23", "BAD, -11, BAD, -5 likewise; -7: sort.");
        meet("kinds", true, (x, a) -> x.kinds(a[0], a[1], a[2], a[3]), (a, at) -> {
            int refusal = at.told(a[0], a[1], a[2]);
            return refusal != 0 ? refusal : out(a[3], 0, 1) ? -7 : 0;
        }, sheets(), sheets(), edges(0, 7, 2, 3), edges(0, 1));
        check.says("Promise 24", "BAD, -11, BAD, -5 likewise; -7: what.");
        meet("riches", true, (x, a) -> x.riches(a[0], a[1], a[2], a[3]), (a, at) -> {
            int refusal = at.told(a[0], a[1], a[2]);
            return refusal != 0 ? refusal : out(a[3], 0, 1) ? -7 : 0;
        }, sheets(), sheets(), edges(0, 7, 2, 3), edges(0, 1));
        check.says("Promise 25", "BAD, -11, BAD, -5 likewise; -7: roomSortWhat.");
        meet("rooms", true, (x, a) -> x.rooms(a[0], a[1], a[2], a[3]), (a, at) -> {
            int refusal = at.told(a[0], a[1], a[2]);
            if (refusal != 0) return refusal;
            return out(a[3], 0, 599) || a[3] / 10 % 10 > 1 || a[3] % 10 > 1 ? -7 : 0;
        }, sheets(), sheets(), edges(0, 7, 2, 3), edges(0, 599, 1, 2, 11, 12, 20, 511, 512, 521));
        check.says("Promise 26", "BAD, -11, BAD, -5 likewise.");
        meet("laws", true, (x, a) -> x.laws(a[0], a[1], a[2]), (a, at) -> at.told(a[0], a[1], a[2]),
            sheets(), sheets(), edges(0, 7, 2, 3));
        check.says("Promise 27", "BAD: SHEETS, one and the same; -11: s is missing; BAD: no TOUR; -5: no such VIEWER.");
        meet("film", false, (x, a) -> x.film(a[0], a[1], a[2]), (a, at) -> {
            if (out(a[0], 0, 3) || out(a[1], 0, 3) || a[0] == a[1]) return BAD;
            return at.tour(a[0]) != 0 ? at.tour(a[0]) : at.nobody(a[2]) ? -5 : 0;
        }, sheets(), sheets(), edges(0, 7, 2, 3));
    }

    private static void lots() {
        check.says("Promise 28", "-1000007: none such.");
        meet("drawn", true, (x, a) -> x.drawn(a[0], a[1], a[2]),
            (a, at) -> out(a[0], 0, 99999) || at.nobody(a[1]) || out(a[2], 0, 2) ? FAR - 7 : 0,
            edges(0, 99999), edges(0, 7, 2, 3), edges(0, 2));
        check.says("Promise 29", "NO: none such.");
        meet("odds", true, (x, a) -> x.odds(a[0], a[1], a[2], a[3]), (a, at) -> {
            boolean none = out(a[0], 0, 99999) || out(a[1], 1, 40) || out(a[2], 0, 10000 * at.viewers - 1) || out(a[3], 0, 1);
            return none ? NO : 0;
        }, edges(0, 99999), edges(1, 40), edges(0, 79999, 29999, 30000), edges(0, 1));
    }

    private static void host() {
        check.says("Promise 32", "(sort -1: n does not matter): 1. BAD: SHEET, sort, n above 40; -14.");
        meet("sheet", false, (x, a) -> x.sheet(a[0], a[1], a[2]), (a, at) -> {
            if (out(a[0], 0, 3) || out(a[1], -1, 2)) return BAD;
            return a[1] == -1 ? 0 : a[2] > 40 ? BAD : a[2] < 0 ? -14 : 0;
        }, sheets(), edges(-1, 2, 0, 1), edges(0, 40));
        check.says("Promise 33", "BAD: SHEET; -11; -12.");
        meet("cell", false, (x, a) -> x.cell(a[0], a[1], a[2]), (a, at) -> {
            if (out(a[0], 0, 3)) return BAD;
            return at.missing(a[0]) ? -11 : out(a[1], 0, at.sizes[a[0]] - 1) ? -12 : 0;
        }, sheets(), edges(0, 39, 1, 2, 5, 6, 11, 12, 13), new int[] {MIN, 0, MAX});
        check.says("Promise 34", "BAD: SHEETS; -11; -13: unlike sorts; -12 (n below 0, too).");
        meet("copy", false, (x, a) -> x.copy(a[0], a[1], a[2], a[3], a[4]), (a, at) -> {
            if (out(a[0], 0, 3) || out(a[2], 0, 3)) return BAD;
            if (at.missing(a[0]) || at.missing(a[2])) return -11;
            if (at.sorts[a[0]] != at.sorts[a[2]]) return -13;
            long i = a[1], j = a[3], n = a[4];
            return i < 0 || j < 0 || n < 0 || i + n > at.sizes[a[0]] || j + n > at.sizes[a[2]] ? -12 : 0;
        }, new int[] {-1, 0, 1, 2, 3, 4}, new int[] {MIN, -1, 0, 2, 6, MAX}, new int[] {-1, 0, 1, 2, 3, 4},
            new int[] {MIN, -1, 0, 2, 6, MAX}, new int[] {MIN, -1, 0, 1, 2, 6, 40, 41, MAX});
        check.says("Promise 35", "BAD: SHEET, sort, n; -11; -13; -12: what stood ahead came.");
        meet("viewersBy", false, (x, a) -> x.viewersBy(a[0], a[1], a[2], a[3]), (a, at) -> {
            if (out(a[0], 0, 3) || out(a[1], 0, 2) || out(a[3], 0, 8)) return BAD;
            return at.missing(a[0]) ? -11 : at.sorts[a[0]] != a[1] ? -13
                : a[3] > 0 && (a[2] < 0 || (long) a[2] + 2 > at.sizes[a[0]]) ? -12 : 0;
        }, sheets(), edges(0, 2, 1), new int[] {MIN, -1, 0, 39, 40, 41, MAX - 1, MAX}, new int[] {MIN, -1, 0, 1, 9, MAX});
        check.says("Promise 36", "BAD: kind; -12: i; -11: no such VIEWER; -13.");
        int[][] is = {{0}, {0, 1}, {0, 2}, {0, 1, 3}, {0, 2, 4}, {0, 5}};
        int[] kinds = {1, 3, 4, 2, 2, 3, 4, 4};
        meet("taken", true, (x, a) -> x.taken(a[0], a[1]), (a, at) -> {
            if (out(a[1], 0, 6)) return BAD;
            if (out(a[0], 0, 15)) return -12;
            if (at.nobody(a[0] % 8)) return -11;
            boolean fits = a[0] >= 8 ? a[1] == 6 : Arrays.stream(is[kinds[a[0]]]).anyMatch(k -> k == a[1]);
            return fits ? 0 : -13;
        }, edges(0, 15, 1, 2, 3, 7, 8, 10, 11), edges(0, 6, 1, 2, 3, 4, 5));
    }

    /** Calls without numbers. */
    private static void others() {
        check.says("Promise 31", "STATE: there is none.");
        FlatToLet x = new FlatToLet();
        check.due("back", x.back(), STATE);
        check.that("back changed nothing", Look.at(x).equals(looks.get("empty")));
        check.says("Promise 7", "FULL (ahead of the FAULT; then THE TAPE stays).");
        for (String tape : new String[] {"", "likes 7;keeps 8;offers 9", "#"}) {
            FlatToLet y = sixTexts(tape);
            check.due("text", y.text(), FULL);
            check.that("text changed nothing", Look.at(y).equals(Look.at(sixTexts(tape))));
        }
        check.says("Terms 2", "They change nothing, but where it is told.");
        FlatToLet z = object(STATES.get(1));
        check.due("the tape is read on", z.feed(1, ';', 0, 0, 0, 0), 25);
        check.due("a text", z.text(), 3);
    }

    private static FlatToLet sixTexts(String tape) {
        FlatToLet x = object(STATES.get(2));
        check.due("the sixth", Check.read(x, ";"), 5);
        Check.feed(x, tape);
        return x;
    }
}
