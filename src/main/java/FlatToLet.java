/** A flat of six rooms and those who come to see it. ../shared/DOC.md says what each call promises. */
public final class FlatToLet {
    public static final int NONE = -1, BAD = -2, STATE = -3, FULL = -4;
    public static final long NO = -4611686018427387904L;

    private static final int NOTHING_THERE = -11, OUTSIDE = -12, OTHER_SORT = -13, BELOW_ZERO = -14;
    private static final int NO_SUCH = -5, NOT_SO = -7, NOT_SAID = -1000, FAULTY = -100;
    /** Answers that may well be small and below 0 have their refusals this much lower. */
    private static final int FAR = -1000000;

    private static final int ROOMS = 6, HOURS = 12, VIEWERS = 8, KINDS = 6, MORES = 10, RICHES = 1000;
    private static final int PERCENT = 100, LEASTS = 10000, TEXTS = 6, TAPE = 160;
    private static final int SHEETS = 4, CELLS = 40, INTS = 2, MISSING = -1;
    private static final int SEEDS = 100000, MOST_SEEDS = 40, MOST_WAITING = 6, ALL_ORDERS = 720;
    private static final long LOT_FACTOR = 48271L, LOT_MODULUS = 2147483647L;
    private static final int ALONE = 1, ALL_VIEWERS = -1, NOBODY = -1, NO_PLACE = -1;
    /** The first, the last and any other place of a tour: a kind may keep more by the one or the other. */
    private static final int PLACES = 3;

    private static final int LIKES = 0, KEEPS = 1, OFFERS = 2, PARTS = 3;
    private static final String FIRST_TEXT = "likes light - damp ; keeps 1 ; offers rich ;";

    /** A token is a number from 0 on, or one of these, or less the byte that is its sign. */
    private static final int END = -1, WRONG = -2, WORD_LIKES = -3, WORD_KEEPS = -4, WORD_OFFERS = -5;
    private static final int OR = -6, AND = -7, NOT = -8, NEGATE = -9;
    private static final int LIGHT = -10, DAMP = -11, ROOM = -12, HOUR = -13, CROWD = -14, RICH = -15;
    private static final int NAMES = 6, DEPTH = 5, DIGITS = 4;

    private final State now = new State();
    private final State kept = new State();
    private boolean imageKept;
    private final Viewer[] kinds = {
        new Viewer(), new Couple(), new Student(), new Doctor(), new Pensioner(), new Cat()};
    private final Viewer plain = new Viewer();
    private final int[] kindOf = new int[VIEWERS];
    private final int[] moreOf = new int[VIEWERS];
    private final Texts texts = new Texts();
    private final Reader reader = new Reader(texts);
    private final Sheets sheets = new Sheets();
    private final Visit visit = new Visit(texts);
    private final int[] order = new int[ROOMS];
    private final int[] way = new int[ROOMS];
    private int wayLength;
    private final int[] gains = new int[PLACES * ROOMS];
    private final int[] offered = new int[VIEWERS];

    public FlatToLet() {
        for (int i = 0; i < FIRST_TEXT.length(); i++) {
            reader.take(FIRST_TEXT.charAt(i));
        }
        reader.fault();
        reader.size = 0;
        texts.count = 1;
    }

    // ---- the flat, the law, viewers

    public int count(int what) {
        switch (what) {
            case 0: return now.viewers;
            case 1: return now.hour;
            case 2: return texts.count;
            case 3: return now.law;
            case 4: return reader.size;
            default: return BAD;
        }
    }

    public int hours(int h) {
        if (!within(h, HOURS)) return BAD;
        int was = now.hour;
        now.hour = h;
        return was;
    }

    public int room(int r, int what, int v) {
        if (!within(r, ROOMS)) return NO_SUCH;
        if (!within(what, 2) || !within(v, PERCENT)) return NOT_SO;
        int[] row = what == 0 ? now.light : now.damp;
        int was = at(row, r);
        set(row, r, v);
        return was;
    }

    public int told(int r, int what) {
        if (!within(r, ROOMS)) return NO_SUCH;
        if (!within(what, 2)) return NOT_SO;
        return at(what == 0 ? now.light : now.damp, r);
    }

    public int feed(int n, int a, int b, int c, int d, int e) {
        if (n < 1 || n > 5) return BAD;
        if (!isByte(a) || !isByte(b) || !isByte(c) || !isByte(d) || !isByte(e)) return BAD;
        if (reader.size + n > TAPE) return FULL;
        reader.take(a);
        if (n > 1) reader.take(b);
        if (n > 2) reader.take(c);
        if (n > 3) reader.take(d);
        if (n > 4) reader.take(e);
        return reader.size;
    }

    public int text() {
        if (texts.count >= TEXTS) return FULL;
        int fault = reader.fault();
        reader.size = 0;
        if (fault >= 0) return FAULTY - fault;
        int number = texts.count;
        texts.count = number + 1;
        return number;
    }

    public int force(int t) {
        if (!within(t, texts.count)) return BAD;
        int was = now.law;
        now.law = t;
        return was;
    }

    public int asks(int part, int v, int r, int crowd) {
        if (!within(part, PARTS) || !isViewer(v) || !within(r, ROOMS) || !isCrowd(crowd)) return NOT_SAID;
        visit.suppose(now);
        letCome(v, crowd);
        return visit.said(part, r);
    }

    public int viewer(int kindMore, int richQuiet) {
        if (!within(kindMore, KINDS * MORES) || !within(richQuiet, RICHES * PERCENT)) return BAD;
        int v = now.viewers;
        if (v >= VIEWERS) return FULL;
        set(kindOf, v, kindMore / MORES);
        set(moreOf, v, kindMore % MORES);
        set(now.rich, v, richQuiet / PERCENT);
        set(now.quiet, v, richQuiet % PERCENT);
        now.viewers = v + 1;
        return v;
    }

    public int put(int v, int what, int to) {
        if (!isViewer(v)) return NO_SUCH;
        if (!within(what, 2) || !within(to, what == 0 ? RICHES : PERCENT)) return NOT_SO;
        int[] row = what == 0 ? now.rich : now.quiet;
        int was = at(row, v);
        set(row, v, to);
        return was;
    }

    public int one(int v, int what) {
        if (!isViewer(v)) return NO_SUCH;
        switch (what) {
            case 0: return at(now.rich, v);
            case 1: return at(now.quiet, v);
            case 2: return at(kindOf, v);
            case 3: return at(moreOf, v);
            default: return NOT_SO;
        }
    }

    // ---- tours

    public int tour(int s, int v, int crowd, int what) {
        int refusal = startTour(s);
        if (refusal != 0) return FAR + refusal;
        if (!isViewer(v) || !isCrowd(crowd) || !within(what, 3)) return FAR + NOT_SO;
        letCome(v, crowd);
        if (what == 0) return visit.mind();
        if (what == 1) return visit.offer();
        return wayLength > 0 ? visit.liked(at(way, wayLength - 1)) : 0;
    }

    public int shown(int s, int some, int what) {
        int refusal = startTour(s);
        if (refusal != 0) return refusal;
        if (!areViewers(some) || !within(what, 3)) return NOT_SO;
        fillOffers(some, Integer.bitCount(some));
        int first = firstOfMost(some);
        if (what == 0) return first;
        if (what == 1) return mostOffered(some);
        return first == NOBODY ? 0 : mostOffered(some & ~(1 << first));
    }

    // ---- what is best

    public int best(int v, int crowd, int what) {
        if (v != ALL_VIEWERS && !isViewer(v)) return FAR + NO_SUCH;
        if (!isCrowd(crowd) || !within(what, 2)) return FAR + NOT_SO;
        visit.suppose(now);
        fillGains(v, crowd);
        int most = 0;
        int digits = 0;
        firstOrder(ROOMS);
        boolean more = true;
        for (int k = 0; k < ALL_ORDERS && more; k++) {
            int gain = gainOfOrder();
            if (k == 0 || gain > most) {
                most = gain;
                digits = digitsOfOrder();
            }
            more = nextOrder(ROOMS);
        }
        return what == 0 ? digits : most;
    }

    public int when(int s, int some, int what) {
        int refusal = startTour(s);
        if (refusal != 0) return refusal;
        if (!areViewers(some) || !within(what, 2)) return NOT_SO;
        int most = 0;
        int hour = 0;
        for (int h = 0; h < HOURS; h++) {
            visit.setHour(h);
            fillOffers(some, Integer.bitCount(some));
            int offer = mostOffered(some);
            if (offer > most) {
                most = offer;
                hour = h;
            }
        }
        return what == 0 ? hour : most;
    }

    public int together(int s, int what) {
        int refusal = startTour(s);
        if (refusal != 0) return refusal;
        if (!within(what, 2)) return NOT_SO;
        int all = (1 << now.viewers) - 1;
        int most = 0;
        int who = 0;
        // A smaller crowd is tried ahead of a larger one, so that of like offers the fewest stand.
        for (int crowd = 1; crowd <= now.viewers; crowd++) {
            fillOffers(all, crowd);
            for (int some = 1; some <= all; some++) {
                if (Integer.bitCount(some) != crowd) continue;
                int offer = mostOffered(some);
                if (offer > most) {
                    most = offer;
                    who = some;
                }
            }
        }
        return what == 0 ? who : most;
    }

    public int without(int s, int v, int what) {
        int refusal = startTour(s);
        if (refusal != 0) return FAR + refusal;
        if (!isViewer(v) || !within(what, 2)) return FAR + NOT_SO;
        letCome(v, ALONE);
        int most = visit.mind();
        int leftOut = NONE;
        for (int i = 0; i < wayLength; i++) {
            visit.walk(way, wayLength, i);
            if (visit.mind() > most) {
                most = visit.mind();
                leftOut = at(way, i);
            }
        }
        return what == 0 ? leftOut : most;
    }

    public int paint(int s, int v, int r) {
        int refusal = startTour(s);
        if (refusal != 0) return FAR + refusal;
        if (!isViewer(v) || !within(r, ROOMS)) return FAR + NO_SUCH;
        letCome(v, ALONE);
        int unpainted = visit.offer();
        visit.setDamp(r, 0);
        return visit.offer() - unpainted;
    }

    public int tenant(int s, int quiet1, int least) {
        int refusal = startTour(s);
        if (refusal != 0) return refusal;
        if (!within(quiet1, PERCENT) || !within(least, LEASTS)) return NOT_SO;
        int taken = NONE;
        int most = 0;
        int quietest = 0;
        for (int v = 0; v < now.viewers; v++) {
            int quiet = at(now.quiet, v);
            letCome(v, ALONE);
            int offer = visit.offer();
            if (quiet < quiet1 || offer < least) continue;
            if (taken == NONE || offer > most || (offer == most && quiet > quietest)) {
                taken = v;
                most = offer;
                quietest = quiet;
            }
        }
        return taken;
    }

    public long waits(int s, int n, int skip, int part) {
        if (startTour(s) != 0) return NO;
        if (n < 1 || n > MOST_WAITING || n > now.viewers) return NO;
        if (!within(skip, n) || !within(part, 2)) return NO;
        int all = (1 << n) - 1;
        fillOffers(all, ALONE);
        int most = mostOffered(all);
        int above = 0;
        int below = 0;
        firstOrder(n);
        boolean more = true;
        for (int k = 0; k < ALL_ORDERS && more; k++) {
            if (at(offered, takenOfOrder(n, skip)) == most) above++;
            below++;
            more = nextOrder(n);
        }
        return inLowestTerms(above, below, part);
    }

    // ---- told offers

    public int judge(int s, int told, int v) {
        int refusal = startTold(s, told, v);
        return refusal != 0 ? refusal : firstOtherwise(told);
    }

    public int kinds(int s, int told, int v, int sort) {
        int refusal = startTold(s, told, v);
        if (refusal != 0) return refusal;
        if (!within(sort, 2)) return NOT_SO;
        int bits = 0;
        for (int k = 0; k < (sort == 0 ? KINDS : MORES); k++) {
            if (sort == 0) visit.setKind(kindAt(k)); else visit.setMore(k);
            if (firstOtherwise(told) == NONE) bits |= 1 << k;
        }
        return bits;
    }

    public int riches(int s, int told, int v, int what) {
        int refusal = startTold(s, told, v);
        if (refusal != 0) return refusal;
        if (!within(what, 2)) return NOT_SO;
        int many = 0;
        int least = NONE;
        for (int rich = 0; rich < RICHES; rich++) {
            visit.setRich(rich);
            if (firstOtherwise(told) != NONE) continue;
            if (many == 0) least = rich;
            many++;
        }
        return what == 0 ? many : least;
    }

    public int rooms(int s, int told, int v, int roomSortWhat) {
        int refusal = startTold(s, told, v);
        if (refusal != 0) return refusal;
        if (!within(roomSortWhat, ROOMS * 100)) return NOT_SO;
        int r = roomSortWhat / 100;
        int sort = roomSortWhat / 10 % 10;
        int what = roomSortWhat % 10;
        if (!within(sort, 2) || !within(what, 2)) return NOT_SO;
        int many = 0;
        int least = NONE;
        for (int x = 0; x < PERCENT; x++) {
            if (sort == 0) visit.setLight(r, x); else visit.setDamp(r, x);
            if (firstOtherwise(told) != NONE) continue;
            if (many == 0) least = x;
            many++;
        }
        return what == 0 ? many : least;
    }

    public int laws(int s, int told, int v) {
        int refusal = startTold(s, told, v);
        if (refusal != 0) return refusal;
        int bits = 0;
        for (int t = 0; t < texts.count; t++) {
            visit.setLaw(t);
            if (firstOtherwise(told) == NONE) bits |= 1 << t;
        }
        return bits;
    }

    public int film(int s, int told, int v) {
        if (!within(s, SHEETS) || !within(told, SHEETS) || s == told) return BAD;
        int refusal = startTour(s);
        if (refusal != 0) return refusal;
        if (!isViewer(v)) return NO_SUCH;
        letCome(v, ALONE);
        sheets.lay(told, INTS, HOURS);
        for (int h = 0; h < HOURS; h++) {
            visit.setHour(h);
            sheets.write(told, h, visit.offer());
        }
        return sheets.read(told, now.hour);
    }

    // ---- orders by lots

    public int drawn(int seed, int v, int what) {
        if (!within(seed, SEEDS) || !isViewer(v) || !within(what, 3)) return FAR + NOT_SO;
        drawOrder(seed);
        if (what == 0) return digitsOfOrder();
        visit.suppose(now);
        letCome(v, ALONE);
        visit.walk(order, ROOMS, NO_PLACE);
        return what == 1 ? visit.mind() : visit.offer();
    }

    public long odds(int seed, int seeds, int vLeast, int part) {
        if (!within(seed, SEEDS) || seeds < 1 || seeds > MOST_SEEDS) return NO;
        if (vLeast < 0 || !isViewer(vLeast / LEASTS) || !within(part, 2)) return NO;
        visit.suppose(now);
        letCome(vLeast / LEASTS, ALONE);
        int above = 0;
        for (int k = 0; k < seeds; k++) {
            drawOrder(seed + k);
            visit.walk(order, ROOMS, NO_PLACE);
            if (visit.offer() >= vLeast % LEASTS) above++;
        }
        return inLowestTerms(above, seeds, part);
    }

    public int image() {
        kept.become(now);
        imageKept = true;
        return now.viewers;
    }

    public int back() {
        if (!imageKept) return STATE;
        now.become(kept);
        return now.viewers;
    }

    // ---- the host

    public int sheet(int s, int sort, int n) {
        if (!within(s, SHEETS) || sort < MISSING || sort > INTS) return BAD;
        if (sort == MISSING) {
            sheets.lay(s, MISSING, 0);
            return 1;
        }
        if (n > CELLS) return BAD;
        if (n < 0) return BELOW_ZERO;
        sheets.lay(s, sort, n);
        return 1;
    }

    public int cell(int s, int i, int v) {
        if (!within(s, SHEETS)) return BAD;
        if (sheets.isMissing(s)) return NOTHING_THERE;
        if (!within(i, sheets.size(s))) return OUTSIDE;
        sheets.write(s, i, v);
        return 1;
    }

    public int copy(int s, int i, int other, int j, int n) {
        if (!within(s, SHEETS) || !within(other, SHEETS)) return BAD;
        if (sheets.isMissing(s) || sheets.isMissing(other)) return NOTHING_THERE;
        if (sheets.sort(s) != sheets.sort(other)) return OTHER_SORT;
        if (!sheets.has(s, i, n) || !sheets.has(other, j, n)) return OUTSIDE;
        sheets.move(s, i, other, j, n);
        return n;
    }

    public int viewersBy(int s, int sort, int from, int n) {
        if (!within(s, SHEETS) || !within(sort, INTS + 1) || n < 0 || n > VIEWERS) return BAD;
        if (sheets.isMissing(s)) return NOTHING_THERE;
        if (sheets.sort(s) != sort) return OTHER_SORT;
        int came = 0;
        for (int k = 0; k < n; k++) {
            if (!sheets.has(s, from, 2 * k + 2)) return OUTSIDE;
            int place = from + 2 * k;
            if (viewer(sheets.read(s, place), sheets.read(s, place + 1)) >= 0) came++;
        }
        return came;
    }

    public int taken(int i, int kind) {
        if (!within(kind, KINDS + 1)) return BAD;
        if (!within(i, 2 * VIEWERS)) return OUTSIDE;
        boolean isNumber = i >= VIEWERS;
        int v = isNumber ? i - VIEWERS : i;
        if (!isViewer(v)) return NOTHING_THERE;
        if (kind == KINDS) return isNumber ? at(now.quiet, v) : OTHER_SORT;
        return !isNumber && isOfKind(kindAt(at(kindOf, v)), kind) ? v : OTHER_SORT;
    }

    // ---- what numbers may be

    private static boolean within(int x, int size) {
        return x >= 0 && x < size;
    }

    private static boolean isByte(int x) {
        return within(x, 256);
    }

    private static boolean isCrowd(int crowd) {
        return crowd >= 1 && crowd <= VIEWERS;
    }

    private boolean isViewer(int v) {
        return within(v, now.viewers);
    }

    private boolean areViewers(int some) {
        return within(some, 1 << now.viewers);
    }

    private static int bound(int x, int least, int most) {
        return x < least ? least : x > most ? most : x;
    }

    /** What stands at a place of a row; outside it, where no call should look, 0. */
    private static int at(int[] row, int i) {
        return i >= 0 && i < row.length ? row[i] : 0;
    }

    private static void set(int[] row, int i, int x) {
        if (i >= 0 && i < row.length) row[i] = x;
    }

    // ---- kinds

    private Viewer kindAt(int k) {
        Viewer kind = k >= 0 && k < kinds.length ? kinds[k] : plain;
        return kind == null ? plain : kind;
    }

    private static boolean isOfKind(Viewer one, int kind) {
        switch (kind) {
            case 0: return true;
            case 1: return one instanceof Couple;
            case 2: return one instanceof Student;
            case 3: return one instanceof Doctor;
            case 4: return one instanceof Pensioner;
            case 5: return one instanceof Cat;
            default: return false;
        }
    }

    // ---- what is supposed

    /** A sheet's tour is what is walked, in the flat as it is: 0, or the refusal. */
    private int startTour(int s) {
        if (!within(s, SHEETS)) return BAD;
        if (sheets.isMissing(s)) return NOTHING_THERE;
        if (!sheets.tellsTour(s)) return BAD;
        wayLength = sheets.size(s);
        for (int i = 0; i < wayLength; i++) {
            set(way, i, sheets.read(s, i));
        }
        visit.suppose(now);
        visit.walk(way, wayLength, NO_PLACE);
        return 0;
    }

    /** Likewise, one viewer coming alone, offers being told by another sheet (or the same). */
    private int startTold(int s, int told, int v) {
        if (!within(s, SHEETS) || !within(told, SHEETS)) return BAD;
        if (sheets.isMissing(s) || sheets.isMissing(told)) return NOTHING_THERE;
        int refusal = startTour(s);
        if (refusal != 0) return refusal;
        if (sheets.size(told) > HOURS) return BAD;
        if (!isViewer(v)) return NO_SUCH;
        letCome(v, ALONE);
        return 0;
    }

    private void letCome(int v, int crowd) {
        visit.setKind(kindAt(at(kindOf, v)));
        visit.setMore(at(moreOf, v));
        visit.setRich(at(now.rich, v));
        visit.setCrowd(crowd);
    }

    private int firstOtherwise(int told) {
        int size = sheets.size(told);
        for (int h = 0; h < size; h++) {
            visit.setHour(h);
            if (visit.offer() != sheets.read(told, h)) return h;
        }
        return NONE;
    }

    private void fillOffers(int some, int crowd) {
        for (int v = 0; v < now.viewers; v++) {
            if (((some >> v) & 1) == 0) continue;
            letCome(v, crowd);
            set(offered, v, visit.offer());
        }
    }

    private int firstOfMost(int some) {
        int most = NOBODY;
        for (int v = 0; v < now.viewers; v++) {
            if (((some >> v) & 1) == 0) continue;
            if (most == NOBODY || at(offered, v) > at(offered, most)) most = v;
        }
        return most;
    }

    private int mostOffered(int some) {
        int first = firstOfMost(some);
        return first == NOBODY ? 0 : at(offered, first);
    }

    // ---- orders

    private void firstOrder(int n) {
        for (int i = 0; i < n; i++) {
            set(order, i, i);
        }
    }

    /** The next order by digits; false behind the last one. */
    private boolean nextOrder(int n) {
        int i = n - 2;
        while (i >= 0 && at(order, i) > at(order, i + 1)) i--;
        if (i < 0) return false;
        int j = n - 1;
        while (j > i && at(order, j) < at(order, i)) j--;
        swap(i, j);
        for (int a = i + 1, b = n - 1; a < b; a++, b--) {
            swap(a, b);
        }
        return true;
    }

    private void swap(int i, int j) {
        int x = at(order, i);
        set(order, i, at(order, j));
        set(order, j, x);
    }

    private int digitsOfOrder() {
        int digits = 0;
        for (int i = 0; i < ROOMS; i++) {
            digits = 10 * digits + at(order, i) + 1;
        }
        return digits;
    }

    private void drawOrder(int seed) {
        firstOrder(ROOMS);
        long lot = seed + 1L;
        for (int k = ROOMS - 1; k >= 1; k--) {
            lot = lot * LOT_FACTOR % LOT_MODULUS;
            swap(k, (int) (lot % (k + 1)));
        }
    }

    /** What each room gives in mind, first, between or last of a tour of all rooms. */
    private void fillGains(int who, int crowd) {
        for (int i = 0; i < gains.length; i++) {
            set(gains, i, 0);
        }
        for (int v = 0; v < now.viewers; v++) {
            if (who != ALL_VIEWERS && who != v) continue;
            letCome(v, crowd);
            for (int r = 0; r < ROOMS; r++) {
                addGain(0, r, visit.keptOf(r, true, false));
                addGain(1, r, visit.keptOf(r, false, false));
                addGain(2, r, visit.keptOf(r, false, true));
            }
        }
    }

    private void addGain(int place, int r, int gain) {
        int i = place * ROOMS + r;
        set(gains, i, at(gains, i) + gain);
    }

    private int gainOfOrder() {
        int sum = 0;
        for (int i = 0; i < ROOMS; i++) {
            int place = i == 0 ? 0 : i == ROOMS - 1 ? 2 : 1;
            sum += at(gains, place * ROOMS + at(order, i));
        }
        return sum;
    }

    /** Who of the first n viewers, coming in that order, is taken if skip of them are let go. */
    private int takenOfOrder(int n, int skip) {
        int ahead = -1;
        for (int i = 0; i < n; i++) {
            int offer = at(offered, at(order, i));
            if (i >= skip && offer > ahead) return at(order, i);
            ahead = Math.max(ahead, offer);
        }
        return at(order, n - 1);
    }

    private static long inLowestTerms(int above, int below, int part) {
        int a = above;
        int b = below;
        // Euclid's remainders at least halve every second step.
        for (int k = 0; k < 64 && b != 0; k++) {
            int rest = a % b;
            a = b;
            b = rest;
        }
        if (a == 0) return NO;
        return part == 0 ? above / a : below / a;
    }

    // ---- kinds of viewers; whatever a kind does not tell is as of the kind above

    private static class Viewer {
        int likes(int room, int said, int more) {
            return said;
        }

        int keeps(int said, int liked, int more, boolean first, boolean last) {
            return said;
        }

        int offers(int said, int mind, int crowd) {
            return mind > 0 ? said : 0;
        }
    }

    private static class Couple extends Viewer {
        int likes(int room, int said, int more) {
            int liked = room == 0 ? said - 2 * more : said;
            return liked < -99 ? -99 : liked;
        }

        int keeps(int said, int liked, int more, boolean first, boolean last) {
            return first ? 2 * said : said;
        }
    }

    private static class Student extends Viewer {
        int keeps(int said, int liked, int more, boolean first, boolean last) {
            return last ? said + more : said;
        }

        int offers(int said, int mind, int crowd) {
            int offer = super.offers(said, mind, crowd);
            return crowd > 2 ? offer + 10 * crowd : offer;
        }
    }

    private static final class Doctor extends Couple {
        int likes(int room, int said, int more) {
            int liked = super.likes(room, said, more);
            return said < 0 ? Math.max(-99, 2 * liked) : liked;
        }

        int offers(int said, int mind, int crowd) {
            return Math.max(0, super.offers(said, mind, crowd) + mind);
        }
    }

    private static final class Pensioner extends Student {
        int keeps(int said, int liked, int more, boolean first, boolean last) {
            return liked < 0 ? said + 3 : super.keeps(said, liked, more, first, last);
        }

        int offers(int said, int mind, int crowd) {
            return super.offers(said, mind, crowd) / 2;
        }
    }

    private static final class Cat extends Viewer {
        int likes(int room, int said, int more) {
            return room == more % ROOMS ? 99 : 0;
        }

        int offers(int said, int mind, int crowd) {
            return 0;
        }
    }

    /** All that an image keeps. */
    private static final class State {
        final int[] light = new int[ROOMS];
        final int[] damp = new int[ROOMS];
        final int[] rich = new int[VIEWERS];
        final int[] quiet = new int[VIEWERS];
        int viewers;
        int hour = 6;
        int law;

        void become(State other) {
            for (int r = 0; r < ROOMS; r++) {
                set(light, r, at(other.light, r));
                set(damp, r, at(other.damp, r));
            }
            for (int v = 0; v < VIEWERS; v++) {
                set(rich, v, at(other.rich, v));
                set(quiet, v, at(other.quiet, v));
            }
            viewers = other.viewers;
            hour = other.hour;
            law = other.law;
        }
    }

    /** One viewer on one tour in a flat that may be otherwise than it is; it is asked for mind and offer. */
    private static final class Visit {
        private final Texts texts;
        private final int[] light = new int[ROOMS];
        private final int[] damp = new int[ROOMS];
        private final int[] walked = new int[ROOMS];
        /** What each name of a text stands for. */
        private final int[] names = new int[NAMES];
        private int length;
        private Viewer kind = new Viewer();
        private int more;
        private int crowd;
        private int law;
        private int hour;
        /** Minds by hours, and bits of those known: they are counted anew only where a change may make them differ. */
        private final int[] minds = new int[HOURS];
        private int known;

        Visit(Texts texts) {
            this.texts = texts;
        }

        void suppose(State state) {
            for (int r = 0; r < ROOMS; r++) {
                set(light, r, at(state.light, r));
                set(damp, r, at(state.damp, r));
            }
            setHour(state.hour);
            law = state.law;
            known = 0;
        }

        /** The tour is the first n of an order, but for the one at the place left out (if there is such a place). */
        void walk(int[] rooms, int n, int leftOut) {
            length = 0;
            for (int i = 0; i < n; i++) {
                if (i == leftOut) continue;
                set(walked, length, at(rooms, i));
                length++;
            }
            known = 0;
        }

        void setKind(Viewer to) {
            if (to != null) kind = to;
            known = 0;
        }

        void setMore(int to) {
            more = to;
            known = 0;
        }

        void setCrowd(int to) {
            crowd = to;
            set(names, LIGHT - CROWD, to);
            known = 0;
        }

        void setLaw(int to) {
            law = to;
            known = 0;
        }

        void setLight(int r, int to) {
            set(light, r, to);
            known = 0;
        }

        void setDamp(int r, int to) {
            set(damp, r, to);
            known = 0;
        }

        void setRich(int to) {
            set(names, LIGHT - RICH, to);
            if (texts.mindNames(law, RICH)) known = 0;
        }

        void setHour(int to) {
            hour = to;
            set(names, LIGHT - HOUR, to);
        }

        private void lookAt(int r) {
            set(names, LIGHT - LIGHT, at(light, r));
            set(names, LIGHT - DAMP, at(damp, r));
            set(names, LIGHT - ROOM, r);
        }

        private void lookAtNoRoom() {
            set(names, LIGHT - LIGHT, 0);
            set(names, LIGHT - DAMP, 0);
            set(names, LIGHT - ROOM, 0);
        }

        int said(int part, int r) {
            if (part == OFFERS) lookAtNoRoom(); else lookAt(r);
            return texts.said(law, part, names);
        }

        int liked(int r) {
            lookAt(r);
            return kind.likes(r, texts.said(law, LIKES, names), more);
        }

        /** How one likes a room times how much of it one keeps. */
        int keptOf(int r, boolean first, boolean last) {
            lookAt(r);
            int liked = kind.likes(r, texts.said(law, LIKES, names), more);
            return liked * kind.keeps(texts.said(law, KEEPS, names), liked, more, first, last);
        }

        int mind() {
            int h = texts.mindNames(law, HOUR) ? hour : 0;
            if (((known >> h) & 1) != 0) return at(minds, h);
            int mind = 0;
            for (int i = 0; i < length; i++) {
                mind += keptOf(at(walked, i), i == 0, i == length - 1);
            }
            set(minds, h, mind);
            known |= 1 << h;
            return mind;
        }

        int offer() {
            int inMind = mind();
            lookAtNoRoom();
            return kind.offers(texts.said(law, OFFERS, names), inMind, crowd);
        }
    }

    /** Texts as steps for a stack, each a token: a number or a name puts a value there, any other joins what is. */
    private static final class Texts {
        private final int[] steps = new int[TEXTS * TAPE];
        /** By text and part: the place behind its last step. */
        private final int[] ends = new int[TEXTS * PARTS];
        /** By text and part: bits of the names in it. */
        private final int[] named = new int[TEXTS * PARTS];
        private final int[] stack = new int[TAPE];
        int count;
        private int written;
        private int names;

        void start() {
            written = count * TAPE;
            names = 0;
        }

        boolean add(int step) {
            if (!within(count, TEXTS) || written >= (count + 1) * TAPE) return false;
            set(steps, written, step);
            written++;
            if (isName(step)) names |= 1 << (LIGHT - step);
            return true;
        }

        void endPart(int part) {
            set(ends, count * PARTS + part, written);
            set(named, count * PARTS + part, names);
            names = 0;
        }

        boolean mindNames(int t, int name) {
            int some = at(named, t * PARTS + LIKES) | at(named, t * PARTS + KEEPS);
            return ((some >> (LIGHT - name)) & 1) != 0;
        }

        static boolean isName(int token) {
            return token <= LIGHT && token >= RICH;
        }

        /** What a part of a text says, in its bounds; values are those of the names. */
        int said(int t, int part, int[] values) {
            int from = part == LIKES ? t * TAPE : at(ends, t * PARTS + part - 1);
            int end = at(ends, t * PARTS + part);
            int top = -1;
            for (int i = from; i < end; i++) {
                int step = at(steps, i);
                if (step >= 0 || isName(step)) {
                    top++;
                    set(stack, top, step >= 0 ? step : at(values, LIGHT - step));
                } else if (step == NOT) {
                    set(stack, top, at(stack, top) == 0 ? 1 : 0);
                } else if (step == NEGATE) {
                    set(stack, top, -at(stack, top));
                } else {
                    top--;
                    set(stack, top, joined(step, at(stack, top), at(stack, top + 1)));
                }
            }
            int value = at(stack, 0);
            if (part == LIKES) return bound(value, -99, 99);
            return bound(value, 0, part == KEEPS ? 9 : RICHES - 1);
        }

        private static int joined(int token, int a, int b) {
            switch (token) {
                case -'+': return a + b;
                case -'-': return a - b;
                case -'*': return a * b;
                case -'<': return a < b ? 1 : 0;
                case -'=': return a == b ? 1 : 0;
                case AND: return a != 0 && b != 0 ? 1 : 0;
                default: return a != 0 || b != 0 ? 1 : 0;
            }
        }
    }

    /** Reads the tape into the next of the texts: first all tokens, as they stand, then what they tell. */
    private static final class Reader {
        private final int[] tape = new int[TAPE];
        int size;
        private final Texts texts;
        private final int[] tokens = new int[TAPE + 1];
        private final int[] places = new int[TAPE + 1];
        private int known;
        /** The token in sight, and which it is. */
        private int token;
        private int seen;

        Reader(Texts texts) {
            this.texts = texts;
        }

        void take(int b) {
            if (size >= TAPE) return;
            set(tape, size, b);
            size++;
        }

        /** The place of the fault, or -1. No token behind the first that can't stand is ever in sight. */
        int fault() {
            findTokens();
            seen = -1;
            advance();
            texts.start();
            boolean good = readPart(WORD_LIKES, LIKES) && readPart(WORD_KEEPS, KEEPS)
                && readPart(WORD_OFFERS, OFFERS) && token == END;
            return good ? -1 : at(places, seen);
        }

        // -- the tokens

        private void findTokens() {
            known = 0;
            int i = 0;
            while (i < size) {
                int from = i;
                int b = at(tape, from);
                i++;
                if (isLetter(b)) {
                    while (i < size && isLetter(at(tape, i))) i++;
                    note(word(from, i), from);
                } else if (isDigit(b)) {
                    while (i < size && isDigit(at(tape, i))) i++;
                    note(number(from, i), from);
                } else if (b != ' ' && b != '\n') {
                    note(isSign(b) ? -b : WRONG, from);
                }
            }
            note(END, size);
        }

        private void note(int found, int place) {
            set(tokens, known, found);
            set(places, known, place);
            known++;
        }

        private static boolean isLetter(int b) {
            return b >= 'a' && b <= 'z';
        }

        private static boolean isDigit(int b) {
            return b >= '0' && b <= '9';
        }

        private static boolean isSign(int b) {
            switch (b) {
                case '(': case ')': case ';': case '+': case '-': case '*': case '<': case '=': return true;
                default: return false;
            }
        }

        private int number(int from, int end) {
            if (end - from > DIGITS) return WRONG;
            int value = 0;
            for (int i = from; i < end; i++) {
                value = 10 * value + at(tape, i) - '0';
            }
            return value;
        }

        private int word(int from, int end) {
            if (spells("likes", from, end)) return WORD_LIKES;
            if (spells("keeps", from, end)) return WORD_KEEPS;
            if (spells("offers", from, end)) return WORD_OFFERS;
            if (spells("or", from, end)) return OR;
            if (spells("and", from, end)) return AND;
            if (spells("not", from, end)) return NOT;
            if (spells("light", from, end)) return LIGHT;
            if (spells("damp", from, end)) return DAMP;
            if (spells("room", from, end)) return ROOM;
            if (spells("hour", from, end)) return HOUR;
            if (spells("crowd", from, end)) return CROWD;
            return spells("rich", from, end) ? RICH : WRONG;
        }

        private boolean spells(String word, int from, int end) {
            if (end - from != word.length()) return false;
            for (int i = 0; i < word.length(); i++) {
                if (at(tape, from + i) != word.charAt(i)) return false;
            }
            return true;
        }

        // -- what they tell; each call says whether all tokens could stand

        private void advance() {
            if (seen + 1 < known) seen++;
            token = at(tokens, seen);
        }

        private boolean passed(int wanted) {
            if (token != wanted) return false;
            advance();
            return true;
        }

        private boolean readPart(int word, int part) {
            if (!passed(word) || !readOr(0) || !passed(-';')) return false;
            texts.endPart(part);
            return true;
        }

        private boolean readOr(int open) {
            boolean good = readAnd(open);
            for (int n = 0; n < TAPE && good && passed(OR); n++) {
                good = readAnd(open) && texts.add(OR);
            }
            return good;
        }

        private boolean readAnd(int open) {
            boolean good = readNot(open);
            for (int n = 0; n < TAPE && good && passed(AND); n++) {
                good = readNot(open) && texts.add(AND);
            }
            return good;
        }

        private boolean readNot(int open) {
            if (token == NOT) {
                if (open >= DEPTH) return false;
                advance();
                return readNot(open + 1) && texts.add(NOT);
            }
            if (!readSum(open)) return false;
            int sign = token;
            if (sign != -'<' && sign != -'=') return true;
            advance();
            return readSum(open) && texts.add(sign);
        }

        private boolean readSum(int open) {
            boolean good = readTerm(open);
            for (int n = 0; n < TAPE && good && (token == -'+' || token == -'-'); n++) {
                int sign = token;
                advance();
                good = readTerm(open) && texts.add(sign);
            }
            return good;
        }

        private boolean readTerm(int open) {
            boolean good = readOne(open);
            for (int n = 0; n < TAPE && good && passed(-'*'); n++) {
                good = readOne(open) && texts.add(-'*');
            }
            return good;
        }

        private boolean readOne(int open) {
            int step = token;
            if (step >= 0 || Texts.isName(step)) {
                advance();
                return texts.add(step);
            }
            if (open >= DEPTH) return false;
            if (passed(-'-')) return readOne(open + 1) && texts.add(NEGATE);
            return passed(-'(') && readOr(open + 1) && passed(-')');
        }
    }

    /** Rows of numbers that the host holds; each cell is an int that is as wide as the row's sort lets it be. */
    private static final class Sheets {
        private final int[] cells = new int[SHEETS * CELLS];
        private final int[] sorts = {MISSING, MISSING, MISSING, MISSING};
        private final int[] sizes = new int[SHEETS];

        int sort(int s) {
            return at(sorts, s);
        }

        boolean isMissing(int s) {
            return at(sorts, s) == MISSING;
        }

        int size(int s) {
            return at(sizes, s);
        }

        void lay(int s, int sort, int n) {
            set(sorts, s, sort);
            set(sizes, s, n);
            for (int i = 0; i < n; i++) {
                set(cells, s * CELLS + i, 0);
            }
        }

        int read(int s, int i) {
            return at(cells, s * CELLS + i);
        }

        void write(int s, int i, int v) {
            int sort = at(sorts, s);
            set(cells, s * CELLS + i, sort == 0 ? (byte) v : sort == 1 ? (short) v : v);
        }

        /** Whether all n places from i on are in the row. */
        boolean has(int s, int i, int n) {
            return i >= 0 && n >= 0 && n <= size(s) && i <= size(s) - n;
        }

        void move(int s, int i, int other, int j, int n) {
            int from = s * CELLS + i;
            int to = other * CELLS + j;
            if (from < 0 || to < 0 || n < 0 || n > cells.length - from || n > cells.length - to) return;
            System.arraycopy(cells, from, cells, to, n);
        }

        boolean tellsTour(int s) {
            int told = 0;
            for (int i = 0; i < size(s); i++) {
                int r = read(s, i);
                if (!within(r, ROOMS) || ((told >> r) & 1) != 0) return false;
                told |= 1 << r;
            }
            return true;
        }
    }
}
