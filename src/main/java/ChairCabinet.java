import java.util.Arrays;

/** Musical chairs of a cabinet: ../shared/DOC.md promises what each call answers. */
public final class ChairCabinet {
    public static final int BAD = -1, FULL = -2, FINDING = -3, STATE = -4, SPENT = -6, NONE = -9;

    private static final int NOTHING = 1, BEYOND = 2, UNLIKE = 3, NOUGHT = 4, SIZE = 5;
    private static final int NOT_REFUSED = 0;

    private static final int MINISTER = 0, OLD = 1, LADY = 2, DEAF = 3, ALLY = 4, YOUNG = 5;

    private static final int MOST_MINISTERS = 6, MOST_CHAIRS = 7, MOST_DEEDS = 40, MISSING = -1;
    private static final int LAST_PLACE = 7, BLANK = 32;
    private static final int LATEST_STOP = 20, LATEST_WHERE = 60;
    private static final int REIGN_ROUNDS = 3, REIGN_CHOICES = 6, BRIBES = 3;
    private static final int ODDS_BARS = 6, ODDS_PARTS = 12, CLUE_INTS = 16, LONGEST_TUNE = 10;
    private static final int LOTS_DEEDS = 20, LOT_FACTOR = 48271, LOT_MODULUS = 2147483647;

    // A DEED's code: a BAR, a STOP, a CHAIR's PLACE above DEED_TAKE, a MINISTER above DEED_NUDGE.
    private static final int DEED_BAR = 0, DEED_STOP = 1, DEED_TAKE = 2, DEED_NUDGE = 10;

    private final Shelf rows = new Shelf(6, 40);
    private final Shelf texts = new Shelf(4, 60);
    private final Reader reader = new Reader();
    private final Ministers ministers = new Ministers();
    private final Ring start = new Ring();
    private final Ring now = new Ring();
    private final Ring aside = new Ring();
    private final Deeds deeds = new Deeds(0);
    private final Deeds[] kept = {new Deeds(MISSING), new Deeds(MISSING), new Deeds(MISSING)};
    private final int[] findingCounts = new int[SIZE + 1];
    private int latestFinding = 0;
    private int told = 0;
    private long toldUpper = 0;
    private long toldLower = 1;

    public ChairCabinet() {
    }

    // ---- 1 rows, texts, cabinets

    public int row(int r, int n) {
        return renewed(rows, r, n, 0);
    }

    public int lay(int r, int i, int v) {
        int refusal = placeRefusal(rows, r, i);
        return refusal != NOT_REFUSED ? refusal : tell(rows.swap(r, i, v));
    }

    public int at(int r, int i) {
        int refusal = placeRefusal(rows, r, i);
        return refusal != NOT_REFUSED ? refusal : tell(rows.items[r][i]);
    }

    public int tear(int r) {
        int refusal = listRefusal(rows, r);
        if (refusal != NOT_REFUSED) {
            return refusal;
        }
        rows.sizes[r] = MISSING;
        return 1;
    }

    public int copy(int r, int i, int to, int j, int n) {
        if (!rows.names(r) || !rows.names(to)) {
            return BAD;
        }
        if (n < 0) {
            return found(SIZE);
        }
        if (!rows.holds(r) || !rows.holds(to)) {
            return found(NOTHING);
        }
        if (!rows.spans(r, i, n) || !rows.spans(to, j, n)) {
            return found(BEYOND);
        }
        System.arraycopy(rows.items[r], i, rows.items[to], j, n);
        return 1;
    }

    public int mean(int r) {
        int refusal = listRefusal(rows, r);
        if (refusal != NOT_REFUSED) {
            return refusal;
        }
        int size = rows.sizes[r];
        if (size == 0) {
            return found(NOUGHT);
        }
        long sum = 0;
        for (int k = 0; k < size; k++) {
            sum += rows.items[r][k];
        }
        return tell((int) (sum / size));
    }

    public int text(int t, int n) {
        return renewed(texts, t, n, BLANK);
    }

    public int put(int t, int i, int v) {
        int refusal = placeRefusal(texts, t, i);
        // The 1000 keeps a byte below 0 apart from the refusals.
        return refusal != NOT_REFUSED ? refusal : 1000 + texts.swap(t, i, (byte) v);
    }

    public int fault(int t) {
        int refusal = listRefusal(texts, t);
        return refusal != NOT_REFUSED ? refusal : reader.read(texts.items[t], texts.sizes[t]);
    }

    public int cabinet(int t) {
        int refusal = listRefusal(texts, t);
        if (refusal != NOT_REFUSED) {
            return refusal;
        }
        if (reader.read(texts.items[t], texts.sizes[t]) != NONE) {
            return STATE;
        }
        ministers.become(reader.ministers);
        start.become(reader.ring);
        now.become(start);
        deeds.count = 0;
        for (Deeds place : kept) {
            place.count = MISSING;
        }
        return ministers.count;
    }

    public int minister(int i, int what) {
        if (!isMinister(i) || what < 0 || what > 5) {
            return BAD;
        }
        return tell(ministerNumber(i, what));
    }

    public int mark(int i, int kind) {
        if (!isMinister(i) || kind <= MINISTER || kind > YOUNG) {
            return BAD;
        }
        if (!Manner.isOf(ministers.kinds[i], kind)) {
            return found(UNLIKE);
        }
        switch (kind) {
            case OLD:
                return now.chairsNear(now.places[i]);
            case LADY:
                return howManyMoreCunning(i);
            case DEAF:
                return placeAfter(i, 1);
            case ALLY:
                return howManyNear(i);
            default:
                return Integer.bitCount(now.chairs);
        }
    }

    private int renewed(Shelf shelf, int k, int n, int v) {
        if (!shelf.names(k) || n > shelf.most) {
            return BAD;
        }
        if (n < 0) {
            return found(SIZE);
        }
        shelf.renew(k, n, v);
        return n;
    }

    private int listRefusal(Shelf shelf, int k) {
        if (!shelf.names(k)) {
            return BAD;
        }
        return shelf.holds(k) ? NOT_REFUSED : found(NOTHING);
    }

    private int placeRefusal(Shelf shelf, int k, int i) {
        int refusal = listRefusal(shelf, k);
        if (refusal != NOT_REFUSED) {
            return refusal;
        }
        return shelf.reaches(k, i) ? NOT_REFUSED : found(BEYOND);
    }

    private boolean isMinister(int i) {
        return i >= 0 && i < ministers.count;
    }

    private int ministerNumber(int i, int what) {
        switch (what) {
            case 0:
                return ministers.kinds[i];
            case 1:
                return now.places[i];
            case 2:
                return ministers.paces[i];
            case 3:
                return ministers.cunnings[i];
            case 4:
                return now.isIn(i) ? 1 : 0;
            default:
                return Manner.stride(ministers.kinds[i], ministers.paces[i], now.places[i], now.chairs);
        }
    }

    private int placeAfter(int i, int bars) {
        return Manner.placeAfter(ministers.kinds[i], ministers.paces[i], now.places[i], now.chairs, bars);
    }

    private int howManyMoreCunning(int i) {
        int many = 0;
        for (int k = 0; k < ministers.count; k++) {
            if (now.isIn(k) && ministers.cunnings[k] > ministers.cunnings[i]) {
                many++;
            }
        }
        return many;
    }

    private int howManyNear(int i) {
        int many = 0;
        for (int k = 0; k < ministers.count; k++) {
            if (k != i && now.isIn(k) && Manner.isNear(now.places[i], now.places[k])) {
                many++;
            }
        }
        return many;
    }

    // ---- 2 deeds

    public int bar() {
        int refusal = deedRefusal(1);
        if (refusal != NOT_REFUSED) {
            return refusal;
        }
        act(DEED_BAR);
        return now.bars;
    }

    public int stop() {
        int refusal = deedRefusal(1);
        if (refusal != NOT_REFUSED) {
            return refusal;
        }
        act(DEED_STOP);
        return Integer.bitCount(now.in);
    }

    public int take(int place) {
        if (place < 0 || place > LAST_PLACE) {
            return BAD;
        }
        if (!Manner.hasChair(now.chairs, place) || !now.hasMoreChairs()) {
            return STATE;
        }
        if (!deeds.haveRoom(1)) {
            return FULL;
        }
        act(DEED_TAKE + place);
        return Integer.bitCount(now.chairs);
    }

    public int nudge(int i) {
        if (!isMinister(i)) {
            return BAD;
        }
        if (!now.isIn(i)) {
            return STATE;
        }
        if (!deeds.haveRoom(1)) {
            return FULL;
        }
        act(DEED_NUDGE + i);
        return now.places[i];
    }

    public int undo(int n) {
        if (n < 0 || n > deeds.count) {
            return BAD;
        }
        int undone = deeds.count - n;
        deeds.count = n;
        replay();
        return undone;
    }

    public int keep(int k) {
        if (!isKeeping(k)) {
            return BAD;
        }
        if (ministers.count == 0) {
            return STATE;
        }
        kept[k].become(deeds);
        return deeds.count;
    }

    public int on(int k) {
        if (!isKeeping(k)) {
            return BAD;
        }
        if (kept[k].count == MISSING) {
            return found(NOTHING);
        }
        deeds.become(kept[k]);
        replay();
        return deeds.count;
    }

    private int deedRefusal(int n) {
        if (ministers.count == 0) {
            return STATE;
        }
        return deeds.haveRoom(n) ? NOT_REFUSED : FULL;
    }

    private boolean isKeeping(int k) {
        return k >= 0 && k < kept.length;
    }

    private void act(int deed) {
        deeds.add(deed);
        now.undergo(ministers, deed);
    }

    private void replay() {
        now.become(start);
        for (int k = 0; k < deeds.count; k++) {
            now.undergo(ministers, deeds.codes[k]);
        }
    }

    // ---- 3 who would sit (aside)

    public int where(int i, int n) {
        int refusal = asideRefusal(i, n, LATEST_WHERE);
        return refusal != NOT_REFUSED ? refusal : placeAfter(i, n);
    }

    public int sits(int n) {
        if (n < 0 || n > LATEST_STOP) {
            return BAD;
        }
        if (ministers.count == 0) {
            return STATE;
        }
        stopAside(n, now.chairs);
        told = aside.taken;
        return aside.in;
    }

    public int bars(int i) {
        int refusal = asideRefusal(i, 0, 0);
        return refusal != NOT_REFUSED ? refusal : barsToBeIn(i, LATEST_STOP);
    }

    public int when(int set) {
        if (set < 0 || set >= 1 << ministers.count) {
            return BAD;
        }
        if (ministers.count == 0) {
            return STATE;
        }
        for (int n = 0; n <= LATEST_STOP; n++) {
            stopAside(n, now.chairs);
            if ((set & ~aside.in) == 0) {
                return n;
            }
        }
        return NONE;
    }

    private int asideRefusal(int i, int n, int most) {
        if (!isMinister(i) || n < 0 || n > most) {
            return BAD;
        }
        return now.isIn(i) ? NOT_REFUSED : STATE;
    }

    private void stopAside(int n, int chairs) {
        aside.become(now);
        aside.chairs = chairs;
        aside.play(ministers, n);
        aside.halt(ministers);
    }

    private boolean wouldBeIn(int i, int n, int chairs) {
        stopAside(n, chairs);
        return aside.isIn(i);
    }

    private int barsToBeIn(int i, int most) {
        int set = 0;
        for (int n = 0; n <= most; n++) {
            stopAside(n, now.chairs);
            if (aside.isIn(i)) {
                set |= 1 << n;
            }
        }
        return set;
    }

    // ---- 4 chairs

    public int remove(int i, int n) {
        int refusal = asideRefusal(i, n, LATEST_STOP);
        if (refusal != NOT_REFUSED) {
            return refusal;
        }
        // Without any CHAIR nobody sits, so all of them will do if nothing less does.
        int which = now.chairs;
        int fewest = Integer.bitCount(which);
        for (int set = 0; set < now.chairs; set++) {
            int many = Integer.bitCount(set);
            boolean better = many < fewest && (set & ~now.chairs) == 0;
            if (better && !wouldBeIn(i, n, now.chairs & ~set)) {
                which = set;
                fewest = many;
            }
        }
        told = which;
        return fewest;
    }

    public int spare(int i, int n) {
        int refusal = asideRefusal(i, n, LATEST_STOP);
        if (refusal != NOT_REFUSED) {
            return refusal;
        }
        if (!now.hasMoreChairs()) {
            return NONE;
        }
        for (int place = 0; place <= LAST_PLACE; place++) {
            boolean there = Manner.hasChair(now.chairs, place);
            if (there && wouldBeIn(i, n, now.chairs & ~(1 << place))) {
                return place;
            }
        }
        return NONE;
    }

    public int reign(int i, int n, int r) {
        int refusal = rows.names(r) ? asideRefusal(i, n, REIGN_ROUNDS) : BAD;
        if (refusal != NOT_REFUSED) {
            return refusal;
        }
        // A plan's figures (of base 6) are the BARS of its rounds, so lesser plans come ahead.
        int plans = 1;
        for (int round = 0; round < n; round++) {
            plans *= REIGN_CHOICES;
        }
        int fewest = NONE;
        int best = 0;
        for (int plan = 0; plan < plans; plan++) {
            int sum = plannedSum(plan, n);
            boolean better = fewest == NONE || sum < fewest;
            if (better && isInByPlan(i, n, plan)) {
                fewest = sum;
                best = plan;
            }
        }
        if (fewest == NONE) {
            return NONE;
        }
        rows.renew(r, n, 0);
        for (int round = 0; round < n; round++) {
            rows.items[r][round] = plannedBars(best, n, round);
        }
        return fewest;
    }

    private static int plannedBars(int plan, int n, int round) {
        int rest = plan;
        for (int later = round + 1; later < n; later++) {
            rest /= REIGN_CHOICES;
        }
        return rest % REIGN_CHOICES;
    }

    private static int plannedSum(int plan, int n) {
        int sum = 0;
        for (int round = 0; round < n; round++) {
            sum += plannedBars(plan, n, round);
        }
        return sum;
    }

    private boolean isInByPlan(int i, int n, int plan) {
        aside.become(now);
        for (int round = 0; round < n && aside.isIn(i); round++) {
            aside.play(ministers, plannedBars(plan, n, round));
            aside.halt(ministers);
            if (aside.hasMoreChairs()) {
                aside.undergo(ministers, DEED_TAKE + aside.leastChair());
            }
        }
        return aside.isIn(i);
    }

    // ---- 5 by where one was

    public int kinds(int i, int r) {
        int refusal = clueRefusal(i, r);
        if (refusal != NOT_REFUSED) {
            return refusal;
        }
        int set = 0;
        for (int kind = MINISTER; kind <= YOUNG; kind++) {
            if (fits(r, kind, ministers.paces[i], now.places[i])) {
                set |= 1 << kind;
            }
        }
        return set;
    }

    public int paces(int i, int r) {
        int refusal = clueRefusal(i, r);
        if (refusal != NOT_REFUSED) {
            return refusal;
        }
        int set = 0;
        for (int pace = 1; pace <= 3; pace++) {
            if (fits(r, ministers.kinds[i], pace, now.places[i])) {
                set |= 1 << pace;
            }
        }
        return set;
    }

    public int places(int i, int r) {
        int refusal = clueRefusal(i, r);
        if (refusal != NOT_REFUSED) {
            return refusal;
        }
        int set = 0;
        for (int place = 0; place <= LAST_PLACE; place++) {
            if (fits(r, ministers.kinds[i], ministers.paces[i], place)) {
                set |= 1 << place;
            }
        }
        return set;
    }

    public int tune(int r) {
        int refusal = listRefusal(rows, r);
        if (refusal != NOT_REFUSED) {
            return refusal;
        }
        int size = rows.sizes[r];
        if (size == 0) {
            return found(SIZE);
        }
        for (int rule = 1; rule <= LONGEST_TUNE && rule <= size; rule++) {
            if (rows.repeats(r, rule)) {
                told = rows.items[r][size - rule];
                return rule;
            }
        }
        return NONE;
    }

    private int clueRefusal(int i, int r) {
        if (!isMinister(i)) {
            return BAD;
        }
        int refusal = listRefusal(rows, r);
        if (refusal != NOT_REFUSED) {
            return refusal;
        }
        int size = rows.sizes[r];
        if (size > CLUE_INTS || size % 2 != 0) {
            return found(SIZE);
        }
        for (int k = 0; k + 1 < size; k += 2) {
            int bars = rows.items[r][k];
            int place = rows.items[r][k + 1];
            if (bars < 0 || bars > LATEST_STOP || place < 0 || place > LAST_PLACE) {
                return found(UNLIKE);
            }
        }
        return NOT_REFUSED;
    }

    private boolean fits(int r, int kind, int pace, int place) {
        for (int k = 0; k + 1 < rows.sizes[r]; k += 2) {
            int bars = rows.items[r][k];
            if (Manner.placeAfter(kind, pace, place, now.chairs, bars) != rows.items[r][k + 1]) {
                return false;
            }
        }
        return true;
    }

    // ---- 6 by turns

    public int bribe(int i, int n) {
        int refusal = asideRefusal(i, n, BRIBES);
        if (refusal != NOT_REFUSED) {
            return refusal;
        }
        // All that a turn leaves behind is how many BARS there are: bit b tells whether b of them
        // lead to being IN. The turns are gone through from the last one, the other one's, back.
        int won = barsToBeIn(i, 2 * 2 * n);
        for (int turn = 0; turn < n; turn++) {
            won = won & won >> 1 & won >> 2;
            won = won | won >> 1 | won >> 2;
        }
        return won & 1;
    }

    // ---- 7 chances, lots

    public int odds(int i, int n, int p) {
        int refusal = p < 0 || p > ODDS_PARTS ? BAD : asideRefusal(i, n, ODDS_BARS);
        return refusal != NOT_REFUSED ? refusal : tellMeanOf(1 << i, n, p);
    }

    public int mid(int n, int p) {
        if (n < 0 || n > ODDS_BARS || p < 0 || p > ODDS_PARTS) {
            return BAD;
        }
        if (ministers.count == 0) {
            return STATE;
        }
        return tellMeanOf((1 << MOST_MINISTERS) - 1, n, p);
    }

    public int lots(int n, int seed) {
        if (n < 1 || n > LOTS_DEEDS || seed < 1 || seed >= LOT_MODULUS) {
            return BAD;
        }
        int refusal = deedRefusal(n);
        if (refusal != NOT_REFUSED) {
            return refusal;
        }
        long lot = seed;
        for (int k = 0; k < n; k++) {
            lot = lot * LOT_FACTOR % LOT_MODULUS;
            act(deedByLot((int) lot));
        }
        return Integer.bitCount(now.in);
    }

    /** Tells the mean of how many of a set of MINISTERS are IN, when it stops by p of 12 each. */
    private int tellMeanOf(int set, int n, int p) {
        stopAside(n, now.chairs);
        long up = Integer.bitCount(aside.in & set);
        long low = 1;
        for (int k = n - 1; k >= 0; k--) {
            stopAside(k, now.chairs);
            up = p * low * Integer.bitCount(aside.in & set) + (ODDS_PARTS - p) * up;
            low *= ODDS_PARTS;
        }
        long shared = commonDivisor(up, low);
        if (shared > 0) {
            toldUpper = up / shared;
            toldLower = low / shared;
        }
        return 1;
    }

    private static long commonDivisor(long a, long b) {
        long more = a;
        long less = b;
        for (int step = 0; step < 200 && less != 0; step++) {
            long rest = more % less;
            more = less;
            less = rest;
        }
        return more;
    }

    private int deedByLot(int lot) {
        int which = lot / 8 % 8;
        if (which == 0) {
            return DEED_STOP;
        }
        if (which == 1 && now.hasMoreChairs()) {
            return DEED_TAKE + now.leastChair();
        }
        if (which == 2 && ministers.count > 0) {
            int i = lot % ministers.count;
            return now.isIn(i) ? DEED_NUDGE + i : DEED_BAR;
        }
        return DEED_BAR;
    }

    // ---- 8 what is told

    public int asked() {
        return told;
    }

    public long upper() {
        return toldUpper;
    }

    public long lower() {
        return toldLower;
    }

    public int count(int what) {
        switch (what) {
            case 0:
                return ministers.count;
            case 1:
                return now.bars;
            case 2:
                return deeds.count;
            case 3:
                return now.in;
            case 4:
                return now.chairs;
            case 5:
                return now.stops;
            case 6:
                return ministers.howManyAre(OLD);
            case 7:
                return ministers.howManyAre(DEAF);
            case 8:
                return rows.howManyHeld();
            case 9:
                return texts.howManyHeld();
            case 10:
                return howManyKept();
            default:
                return BAD;
        }
    }

    public int finding() {
        return latestFinding;
    }

    public int findings(int f) {
        return f < NOTHING || f > SIZE ? BAD : findingCounts[f];
    }

    public long digest() {
        long h = 17;
        for (int what = 0; what <= 10; what++) {
            h = 31 * h + count(what);
        }
        for (int i = 0; i < ministers.count; i++) {
            for (int what = 0; what <= 5; what++) {
                h = 31 * h + ministerNumber(i, what);
            }
        }
        for (Deeds place : kept) {
            h = 31 * h + place.count;
        }
        return texts.digestFrom(rows.digestFrom(h));
    }

    private int howManyKept() {
        int many = 0;
        for (Deeds place : kept) {
            if (place.count != MISSING) {
                many++;
            }
        }
        return many;
    }

    private int tell(int v) {
        told = v;
        return 1;
    }

    private int found(int finding) {
        latestFinding = finding;
        findingCounts[finding]++;
        return FINDING;
    }

    /** What the KINDS have in common and apart: of which KIND one is, too, how one walks, seeks. */
    private static final class Manner {
        private Manner() {
        }

        static boolean isOf(int kind, int wanted) {
            return kind == wanted || wanted == MINISTER
                || wanted == OLD && kind == ALLY || wanted == DEAF && kind == YOUNG;
        }

        /** By how many PLACES on one looks for a CHAIR. */
        static int reach(int kind) {
            if (kind == YOUNG) {
                return 7;
            }
            return isOf(kind, OLD) ? 2 : 1;
        }

        static boolean hasChair(int chairs, int place) {
            return (chairs >> place & 1) == 1;
        }

        static boolean isNear(int from, int place) {
            return (place - from & LAST_PLACE) <= 2;
        }

        static int stride(int kind, int pace, int place, int chairs) {
            return isOf(kind, OLD) && hasChair(chairs, place) ? pace - 1 : pace;
        }

        static int placeAfter(int kind, int pace, int from, int chairs, int bars) {
            if (!isOf(kind, OLD)) {
                return from + pace * bars & LAST_PLACE;
            }
            int place = from;
            for (int bar = 0; bar < bars; bar++) {
                place = place + stride(kind, pace, place, chairs) & LAST_PLACE;
            }
            return place;
        }
    }

    /** Numbered lists (ROWS, or TEXTS), each there with a size, or MISSING. */
    private static final class Shelf {
        final int most;
        final int[][] items;
        final int[] sizes;

        Shelf(int lists, int most) {
            this.most = most;
            items = new int[lists][most];
            sizes = new int[lists];
            Arrays.fill(sizes, MISSING);
        }

        boolean names(int k) {
            return k >= 0 && k < sizes.length;
        }

        boolean holds(int k) {
            return sizes[k] != MISSING;
        }

        boolean reaches(int k, int i) {
            return i >= 0 && i < sizes[k];
        }

        boolean spans(int k, int from, int n) {
            return from >= 0 && from <= sizes[k] && n <= sizes[k] - from;
        }

        void renew(int k, int n, int v) {
            sizes[k] = n;
            Arrays.fill(items[k], 0, n, v);
        }

        int swap(int k, int i, int v) {
            int old = items[k][i];
            items[k][i] = v;
            return old;
        }

        boolean repeats(int k, int rule) {
            for (int i = rule; i < sizes[k]; i++) {
                if (items[k][i] != items[k][i - rule]) {
                    return false;
                }
            }
            return true;
        }

        int howManyHeld() {
            int many = 0;
            for (int size : sizes) {
                if (size != MISSING) {
                    many++;
                }
            }
            return many;
        }

        long digestFrom(long ahead) {
            long h = ahead;
            for (int k = 0; k < sizes.length; k++) {
                h = 31 * h + sizes[k];
                for (int i = 0; i < sizes[k]; i++) {
                    h = 31 * h + items[k][i];
                }
            }
            return h;
        }
    }

    /** What of the MINISTERS stays as long as their CABINET does. */
    private static final class Ministers {
        final int[] kinds = new int[MOST_MINISTERS];
        final int[] paces = new int[MOST_MINISTERS];
        final int[] cunnings = new int[MOST_MINISTERS];
        /** In which order they look for CHAIRS. */
        final int[] order = new int[MOST_MINISTERS];
        int count = 0;

        void become(Ministers other) {
            count = other.count;
            System.arraycopy(other.kinds, 0, kinds, 0, MOST_MINISTERS);
            System.arraycopy(other.paces, 0, paces, 0, MOST_MINISTERS);
            System.arraycopy(other.cunnings, 0, cunnings, 0, MOST_MINISTERS);
            System.arraycopy(other.order, 0, order, 0, MOST_MINISTERS);
        }

        void add(int kind, int pace, int cunning) {
            if (count >= MOST_MINISTERS) {
                return;
            }
            kinds[count] = kind;
            paces[count] = pace;
            cunnings[count] = kind == LADY ? cunning + 10 : cunning;
            int rank = count;
            while (rank > 0 && cunnings[order[rank - 1]] < cunnings[count]) {
                order[rank] = order[rank - 1];
                rank--;
            }
            order[rank] = count;
            count++;
        }

        int howManyAre(int kind) {
            int many = 0;
            for (int i = 0; i < count; i++) {
                if (Manner.isOf(kinds[i], kind)) {
                    many++;
                }
            }
            return many;
        }
    }

    /** The ring: CHAIRS, where the MINISTERS are, who is IN; how many BARS, STOPS there were. */
    private static final class Ring {
        final int[] places = new int[MOST_MINISTERS];
        int in = 0;
        int chairs = 0;
        /** On which CHAIRS somebody sits, of the STOP that is or was last; each begins with none. */
        int taken = 0;
        int bars = 0;
        int stops = 0;

        void become(Ring other) {
            System.arraycopy(other.places, 0, places, 0, MOST_MINISTERS);
            in = other.in;
            chairs = other.chairs;
            bars = other.bars;
            stops = other.stops;
        }

        boolean isIn(int i) {
            return (in >> i & 1) == 1;
        }

        boolean hasMoreChairs() {
            return Integer.bitCount(chairs) > 1;
        }

        int leastChair() {
            return firstOf(chairs, 0, LAST_PLACE);
        }

        int chairsNear(int from) {
            int many = 0;
            for (int place = 0; place <= LAST_PLACE; place++) {
                if (Manner.isNear(from, place) && Manner.hasChair(chairs, place)) {
                    many++;
                }
            }
            return many;
        }

        void undergo(Ministers ministers, int deed) {
            if (deed == DEED_BAR) {
                play(ministers, 1);
            } else if (deed == DEED_STOP) {
                halt(ministers);
            } else if (deed < DEED_NUDGE) {
                chairs &= ~(1 << deed - DEED_TAKE);
            } else if (deed - DEED_NUDGE < MOST_MINISTERS) {
                int i = deed - DEED_NUDGE;
                places[i] = places[i] + 1 & LAST_PLACE;
            }
        }

        void play(Ministers ministers, int n) {
            for (int i = 0; i < ministers.count; i++) {
                if (isIn(i)) {
                    places[i] = Manner.placeAfter(
                        ministers.kinds[i], ministers.paces[i], places[i], chairs, n);
                }
            }
            bars += n;
        }

        void halt(Ministers ministers) {
            taken = 0;
            for (int rank = 0; rank < ministers.count; rank++) {
                int i = ministers.order[rank];
                if (isIn(i)) {
                    seat(ministers, i);
                }
            }
            stops++;
        }

        private void seat(Ministers ministers, int i) {
            int kind = ministers.kinds[i];
            if (Manner.isOf(kind, DEAF)) {
                int stride = Manner.stride(kind, ministers.paces[i], places[i], chairs);
                places[i] = places[i] + stride & LAST_PLACE;
            }
            int seat = firstOf(chairs & ~taken, places[i], Manner.reach(kind));
            if (seat == NONE && kind == ALLY) {
                seat = firstOf(chairs & taken, places[i], Manner.reach(kind));
            }
            if (seat == NONE) {
                in &= ~(1 << i);
            } else {
                taken |= 1 << seat;
                places[i] = seat;
            }
        }

        private static int firstOf(int wanted, int from, int reach) {
            for (int on = 0; on <= reach; on++) {
                int place = from + on & LAST_PLACE;
                if (Manner.hasChair(wanted, place)) {
                    return place;
                }
            }
            return NONE;
        }
    }

    /** The DEEDS by their codes, or a place to keep them (MISSING if none are kept). */
    private static final class Deeds {
        final int[] codes = new int[MOST_DEEDS];
        int count;

        Deeds(int count) {
            this.count = count;
        }

        void become(Deeds other) {
            count = other.count;
            System.arraycopy(other.codes, 0, codes, 0, MOST_DEEDS);
        }

        boolean haveRoom(int n) {
            return n <= MOST_DEEDS - count;
        }

        void add(int deed) {
            if (haveRoom(1)) {
                codes[count] = deed;
                count++;
            }
        }
    }

    /** Reads a CABINET from a TEXT; what was read is meant only if there was no FAULT. */
    private static final class Reader {
        /** By KIND: m, o, l, d, a, y. */
        private static final int[] LETTERS = {109, 111, 108, 100, 97, 121};
        private static final int CHAIRS_LETTER = 114, FIGURE_0 = 48, FIGURE_9 = 57;

        final Ministers ministers = new Ministers();
        final Ring ring = new Ring();
        /** The place that is read next: where reading fails, the FAULT. */
        private int next = 0;

        int read(int[] signs, int size) {
            next = 0;
            ministers.count = 0;
            ring.chairs = 0;
            ring.in = 0;
            skipBlanks(signs, size);
            if (!readChairs(signs, size)) {
                return next;
            }
            skipBlanks(signs, size);
            // Each item that is read is a MINISTER; one more than there may be is none.
            for (int item = 0; item <= MOST_MINISTERS; item++) {
                if (!readMinister(signs, size)) {
                    return next;
                }
                skipBlanks(signs, size);
                if (next >= size) {
                    return NONE;
                }
            }
            return next;
        }

        private void skipBlanks(int[] signs, int size) {
            while (next < size && signs[next] == BLANK) {
                next++;
            }
        }

        private boolean readChairs(int[] signs, int size) {
            if (next >= size || signs[next] != CHAIRS_LETTER) {
                return false;
            }
            next++;
            int many = 0;
            int last = -1;
            while (next < size && signs[next] >= FIGURE_0 && signs[next] <= FIGURE_9) {
                int place = signs[next] - FIGURE_0;
                if (place <= last || place > LAST_PLACE || many == MOST_CHAIRS) {
                    return false;
                }
                ring.chairs |= 1 << place;
                last = place;
                many++;
                next++;
            }
            return many > 0;
        }

        private boolean readMinister(int[] signs, int size) {
            int kind = next < size ? kindOf(signs[next]) : NONE;
            if (kind == NONE || ministers.count >= MOST_MINISTERS) {
                return false;
            }
            next++;
            int place = readFigure(signs, size, 0, LAST_PLACE);
            int pace = place == NONE ? NONE : readFigure(signs, size, 1, 3);
            int cunning = pace == NONE ? NONE : readFigure(signs, size, 0, 9);
            if (cunning == NONE) {
                return false;
            }
            ring.places[ministers.count] = place;
            ring.in |= 1 << ministers.count;
            ministers.add(kind, pace, cunning);
            return true;
        }

        private int readFigure(int[] signs, int size, int least, int most) {
            int figure = next < size ? signs[next] - FIGURE_0 : NONE;
            if (figure < least || figure > most) {
                return NONE;
            }
            next++;
            return figure;
        }

        private static int kindOf(int letter) {
            for (int kind = 0; kind < LETTERS.length; kind++) {
                if (LETTERS[kind] == letter) {
                    return kind;
                }
            }
            return NONE;
        }
    }
}
