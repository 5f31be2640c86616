/** Messages that hop round a cube of four ways; DOC.md tells what each call answers. */
public final class CubeHops {
    public static final int BAD = -1, FULL = -2, FINDING = -3, STATE = -4, SPENT = -6, NONE = -9;

    private static final int ROWS = 6, ROW_LIMIT = 40;
    private static final int TEXTS = 4, TEXT_LIMIT = 60, BLANK = 32;
    private static final int KEPT = 3;
    private static final int NOTHING = 1, BEYOND = 2, UNLIKE = 3, NOUGHT = 4, SIZE = 5;
    private static final int CORNERS = 16, WAYS = 4, LINKS = 32, NO_WAY = -1;
    private static final int KINDS = 6, MOST_MESSAGES = 7;
    private static final int LOW = 0, HIGH = 1, LAZY = 2, DODGE = 3, PROUD = 4, SLY = 5;
    private static final int[] KIND_LETTERS = {108, 104, 122, 100, 112, 115};
    private static final int FIRST_CORNER_LETTER = 97;
    private static final int LAST_STEP = 99, MOST_DEEDS = 40;
    private static final int STEP_DEED = 0, LINK_DEED = 1, AIM_DEED = 2;
    private static final int AHEAD = 60, NOT_BY_THEN = 61, TIGHT_AHEAD = 40;
    private static final int LOOKS = 20;
    private static final int MOST_TURNS = 3, APART = 16;
    private static final int TWELVE = 12;
    private static final int MOST_LOTS = 20, MOST_SEED = 2147483646;
    private static final long LOT_FACTOR = 48271L, LOT_MODULUS = 2147483647L;
    private static final int MESSAGE_FACTS = 6, COUNTS = 11;

    private final Strip[] rows = new Strip[ROWS];
    private final Strip[] texts = new Strip[TEXTS];
    private final Strip deeds = new Strip(MOST_DEEDS);
    private final Strip[] kept = new Strip[KEPT];
    private final Cube start = new Cube();
    private final Cube now = new Cube();
    private final Cube aside = new Cube();
    private final Parting parting = new Parting();
    private final int[] uses = new int[LINKS];
    private final int[][] looks = new int[KINDS][LOOKS];
    private final int[] findingCounts = new int[SIZE + 1];
    private int latestFinding;
    private int told;
    private long upperTold;
    private long lowerTold = 1;

    public CubeHops() {
        for (int r = 0; r < ROWS; r++) {
            rows[r] = new Strip(ROW_LIMIT);
        }
        for (int t = 0; t < TEXTS; t++) {
            texts[t] = new Strip(TEXT_LIMIT);
        }
        for (int k = 0; k < KEPT; k++) {
            kept[k] = new Strip(MOST_DEEDS);
        }
        deeds.renew(0, 0);
    }

    // ---- 1 rows, texts, cubes

    public int row(int r, int n) {
        if (!isRow(r) || n > ROW_LIMIT) {
            return BAD;
        }
        if (n < 0) {
            return found(SIZE);
        }
        rows[r].renew(n, 0);
        return n;
    }

    public int lay(int r, int i, int v) {
        if (!isRow(r)) {
            return BAD;
        }
        int refused = refusePlace(rows[r], i);
        return refused != 0 ? refused : tell(1, rows[r].set(i, v));
    }

    public int at(int r, int i) {
        if (!isRow(r)) {
            return BAD;
        }
        int refused = refusePlace(rows[r], i);
        return refused != 0 ? refused : tell(1, rows[r].get(i));
    }

    public int tear(int r) {
        if (!isRow(r)) {
            return BAD;
        }
        if (rows[r].isMissing()) {
            return found(NOTHING);
        }
        rows[r].drop();
        return 1;
    }

    public int copy(int r, int i, int to, int j, int n) {
        if (!isRow(r) || !isRow(to)) {
            return BAD;
        }
        if (n < 0) {
            return found(SIZE);
        }
        if (rows[r].isMissing() || rows[to].isMissing()) {
            return found(NOTHING);
        }
        if (!rows[r].hasMany(i, n) || !rows[to].hasMany(j, n)) {
            return found(BEYOND);
        }
        rows[to].takePart(rows[r], i, j, n);
        return 1;
    }

    public int mean(int r) {
        if (!isRow(r)) {
            return BAD;
        }
        Strip row = rows[r];
        if (row.isMissing()) {
            return found(NOTHING);
        }
        if (row.size == 0) {
            return found(NOUGHT);
        }
        long sum = 0;
        for (int i = 0; i < row.size; i++) {
            sum += row.get(i);
        }
        return tell(1, (int) (sum / row.size));
    }

    public int text(int t, int n) {
        if (!isText(t) || n > TEXT_LIMIT) {
            return BAD;
        }
        if (n < 0) {
            return found(SIZE);
        }
        texts[t].renew(n, BLANK);
        return n;
    }

    public int put(int t, int i, int v) {
        if (!isText(t)) {
            return BAD;
        }
        int refused = refusePlace(texts[t], i);
        return refused != 0 ? refused : texts[t].set(i, (byte) v) + 1000;
    }

    public int fault(int t) {
        if (!isText(t)) {
            return BAD;
        }
        if (texts[t].isMissing()) {
            return found(NOTHING);
        }
        return readCube(texts[t], aside);
    }

    public int cube(int t) {
        if (!isText(t)) {
            return BAD;
        }
        if (texts[t].isMissing()) {
            return found(NOTHING);
        }
        if (readCube(texts[t], aside) != NONE) {
            return STATE;
        }
        start.take(aside);
        deeds.renew(0, 0);
        for (int k = 0; k < KEPT; k++) {
            kept[k].drop();
        }
        replay();
        return now.size;
    }

    public int message(int i, int what) {
        if (!now.hasMessage(i) || what < 0 || what >= MESSAGE_FACTS) {
            return BAD;
        }
        return tell(1, now.fact(i, what));
    }

    public int mark(int i, int kind) {
        if (!now.hasMessage(i) || kind < HIGH || kind > SLY) {
            return BAD;
        }
        if (!isOf(now.kind[i], kind)) {
            return found(UNLIKE);
        }
        switch (kind) {
            case HIGH:
                return now.wish(i) - now.wishAs(LOW, i, now.number) + 10;
            case LAZY:
                return lazyWishes(i);
            case DODGE:
                return WAYS - Integer.bitCount(now.wholeWays(now.corner[i]));
            case PROUD:
                return now.wish(i) != now.wishAs(HIGH, i, now.number) ? 1 : 0;
            default:
                return now.wish(i) != now.wishAs(DODGE, i, now.number) ? 1 : 0;
        }
    }

    public int link(int l) {
        if (!isLink(l)) {
            return BAD;
        }
        int corner = Web.lowerEnd(l);
        int other = corner | 1 << Web.wayOf(l);
        return tell(now.isBroken(l) ? 1 : 0, corner + 16 * other);
    }

    // ---- 2 deeds

    public int step() {
        if (now.size == 0 || now.number >= LAST_STEP) {
            return STATE;
        }
        if (deeds.size >= MOST_DEEDS) {
            return FULL;
        }
        int before = now.hops;
        perform(STEP_DEED);
        return now.hops - before;
    }

    public int snap(int l) {
        if (!isLink(l)) {
            return BAD;
        }
        if (now.size == 0 || now.isBroken(l)) {
            return STATE;
        }
        return turnOver(l);
    }

    public int mend(int l) {
        if (!isLink(l)) {
            return BAD;
        }
        if (!now.isBroken(l)) {
            return STATE;
        }
        return turnOver(l);
    }

    public int aim(int i, int c) {
        if (!now.hasMessage(i) || !isCorner(c)) {
            return BAD;
        }
        int goal = now.goal[i];
        if (goal == c) {
            return STATE;
        }
        if (deeds.size >= MOST_DEEDS) {
            return FULL;
        }
        perform(aimDeed(i, c));
        return goal;
    }

    public int undo(int n) {
        if (n < 0 || n > deeds.size) {
            return BAD;
        }
        int undone = deeds.size - n;
        deeds.shorten(n);
        replay();
        return undone;
    }

    public int keep(int k) {
        if (k < 0 || k >= KEPT) {
            return BAD;
        }
        if (now.size == 0) {
            return STATE;
        }
        kept[k].take(deeds);
        return deeds.size;
    }

    public int on(int k) {
        if (k < 0 || k >= KEPT) {
            return BAD;
        }
        if (kept[k].isMissing()) {
            return found(NOTHING);
        }
        deeds.take(kept[k]);
        replay();
        return deeds.size;
    }

    // ---- 3 what comes

    public int later(int i, int n) {
        if (!now.hasMessage(i) || n < 0 || n > AHEAD) {
            return BAD;
        }
        aside.take(now);
        for (int s = 0; s < n; s++) {
            aside.advance();
        }
        return tell(aside.corner[i], aside.hops - now.hops);
    }

    public int arrives(int i) {
        if (!now.hasMessage(i)) {
            return BAD;
        }
        aside.take(now);
        int made = 0;
        for (int s = 0; s <= AHEAD; s++) {
            if (aside.isThere(i)) {
                return tell(s, made);
            }
            aside.advance();
            made += aside.wentJustNow(i) ? 1 : 0;
        }
        return NONE;
    }

    public int all() {
        if (now.size == 0) {
            return STATE;
        }
        aside.take(now);
        int steps = aside.stepsTillAllThere();
        return steps == NOT_BY_THEN ? NONE : tell(steps, aside.lastAway);
    }

    public int tight(int n) {
        if (n < 1 || n > TIGHT_AHEAD) {
            return BAD;
        }
        if (now.size == 0) {
            return STATE;
        }
        countUses(n);
        int most = 0;
        for (int l = 1; l < LINKS; l++) {
            most = uses[l] > uses[most] ? l : most;
        }
        return uses[most] == 0 ? NONE : tell(most, uses[most]);
    }

    // ---- 4 how the cube hangs together

    public int far(int a, int b) {
        if (!isCorner(a) || !isCorner(b)) {
            return BAD;
        }
        int links = Web.distance(~now.broken, a, b);
        return links == APART ? NONE : links;
    }

    public int reach(int c) {
        if (!isCorner(c)) {
            return BAD;
        }
        int set = 1 << c;
        int farthest = 0;
        for (int d = 1; d < CORNERS; d++) {
            int wider = Web.spread(~now.broken, set);
            farthest = wider != set ? d : farthest;
            set = wider;
        }
        return tell(set, farthest);
    }

    public int parts(int a, int b) {
        if (!isCorner(a) || !isCorner(b) || a == b) {
            return BAD;
        }
        return parting.fewest(now.broken, a, b);
    }

    public int hurts() {
        if (now.size == 0) {
            return STATE;
        }
        aside.take(now);
        int latest = aside.stepsTillAllThere();
        int worst = NONE;
        for (int l = 0; l < LINKS && latest < NOT_BY_THEN; l++) {
            if (!now.isBroken(l)) {
                aside.take(now);
                aside.turnOverLink(l);
                int steps = aside.stepsTillAllThere();
                worst = steps > latest ? l : worst;
                latest = Math.max(latest, steps);
            }
        }
        return worst == NONE ? NONE : tell(worst, latest);
    }

    // ---- 5 which message it is

    public int goals(int i, int r) {
        int refused = refuseSights(i, r);
        if (refused != 0) {
            return refused;
        }
        int set = 0;
        for (int c = 0; c < CORNERS; c++) {
            aside.take(now);
            aside.setGoal(i, c);
            set |= asideFits(i, rows[r]) ? 1 << c : 0;
        }
        return set;
    }

    public int kinds(int i, int r) {
        int refused = refuseSights(i, r);
        return refused != 0 ? refused : fittingKinds(i, rows[r]);
    }

    public int test(int i, int r) {
        int refused = refuseSights(i, r);
        if (refused != 0) {
            return refused;
        }
        int set = fittingKinds(i, rows[r]);
        if (set == 0) {
            return NONE;
        }
        lookAhead(i, set);
        int best = 0;
        int least = greatestPart(set, 0);
        for (int look = 1; look < LOOKS; look++) {
            int part = greatestPart(set, look);
            best = part < least ? look : best;
            least = Math.min(least, part);
        }
        return tell(best + 1, least);
    }

    // ---- 6 by turns

    public int duel(int a, int b, int n) {
        if (!isCorner(a) || !isCorner(b) || a == b || n < 0 || n > MOST_TURNS) {
            return BAD;
        }
        // No way is shorter than the bits in which both are unlike, so nothing is lost by such bounds.
        return Web.snapTurn(~now.broken, a, b, n, Integer.bitCount(a ^ b), APART);
    }

    // ---- 7 chances, lots

    public int odds(int a, int b, int p) {
        if (!isCorner(a) || !isCorner(b) || p < 0 || p > TWELVE) {
            return BAD;
        }
        int whole = wholeOnLowWay(a, b);
        if (whole < Integer.bitCount(a ^ b)) {
            return tellFraction(0, 1);
        }
        long upper = 1;
        long lower = 1;
        for (int k = 0; k < whole; k++) {
            upper *= TWELVE - p;
            lower *= TWELVE;
        }
        return tellFraction(upper, lower);
    }

    public int mid(int a, int b, int p) {
        if (!isCorner(a) || !isCorner(b) || p < 0 || p > TWELVE) {
            return BAD;
        }
        return tellFraction((long) wholeOnLowWay(a, b) * (TWELVE - p), TWELVE);
    }

    public int lots(int n, int seed) {
        if (n < 1 || n > MOST_LOTS || seed < 1 || seed > MOST_SEED) {
            return BAD;
        }
        if (now.size == 0) {
            return STATE;
        }
        if (deeds.size + n > MOST_DEEDS) {
            return FULL;
        }
        long lot = seed;
        for (int k = 0; k < n; k++) {
            lot = lot * LOT_FACTOR % LOT_MODULUS;
            perform(lotDeed((int) lot));
        }
        return now.hops;
    }

    // ---- 8 what is told

    public int asked() {
        return told;
    }

    public long upper() {
        return upperTold;
    }

    public long lower() {
        return lowerTold;
    }

    public int count(int what) {
        return what < 0 || what >= COUNTS ? BAD : tally(what);
    }

    public int finding() {
        return latestFinding;
    }

    public int findings(int f) {
        return f < NOTHING || f > SIZE ? BAD : findingCounts[f];
    }

    public long digest() {
        long h = 17;
        for (int what = 0; what < COUNTS; what++) {
            h = 31 * h + tally(what);
        }
        for (int i = 0; i < now.size; i++) {
            for (int what = 0; what < MESSAGE_FACTS; what++) {
                h = 31 * h + now.fact(i, what);
            }
        }
        for (int l = 0; l < LINKS; l++) {
            h = 31 * h + (now.isBroken(l) ? 1 : 0);
        }
        for (int k = 0; k < KEPT; k++) {
            h = 31 * h + kept[k].size;
        }
        for (int r = 0; r < ROWS; r++) {
            h = rows[r].digested(h);
        }
        for (int t = 0; t < TEXTS; t++) {
            h = texts[t].digested(h);
        }
        return h;
    }

    // ---- answers

    private int found(int f) {
        latestFinding = f;
        if (f >= NOTHING && f <= SIZE) {
            findingCounts[f]++;
        }
        return FINDING;
    }

    /** 0, if the strip has place i. */
    private int refusePlace(Strip strip, int i) {
        if (strip.isMissing()) {
            return found(NOTHING);
        }
        return strip.has(i) ? 0 : found(BEYOND);
    }

    private int tell(int answer, int askedFor) {
        told = askedFor;
        return answer;
    }

    private int tellFraction(long upper, long lower) {
        long divisor = greatestDivisor(upper, lower);
        if (divisor > 0) {
            upperTold = upper / divisor;
            lowerTold = lower / divisor;
        }
        return 1;
    }

    private static long greatestDivisor(long x, long y) {
        long greater = x;
        long smaller = y;
        for (int k = 0; k < 100 && smaller != 0; k++) {
            long rest = greater % smaller;
            greater = smaller;
            smaller = rest;
        }
        return greater;
    }

    // ---- what numbers are

    private static boolean isRow(int r) {
        return r >= 0 && r < ROWS;
    }

    private static boolean isText(int t) {
        return t >= 0 && t < TEXTS;
    }

    private static boolean isCorner(int c) {
        return c >= 0 && c < CORNERS;
    }

    private static boolean isLink(int l) {
        return l >= 0 && l < LINKS;
    }

    /** Whether a message of one kind is one of another kind, which is not LOW, too. */
    private static boolean isOf(int kind, int wanted) {
        return kind == wanted || kind == PROUD && wanted == HIGH || kind == SLY && wanted == DODGE;
    }

    // ---- the language of cubes

    /** Reads a cube until its fault: that place, or NONE. */
    private static int readCube(Strip text, Cube into) {
        into.clear();
        int place = 0;
        while (place < text.size) {
            if (text.get(place) == BLANK) {
                place++;
                continue;
            }
            int kind = kindOfLetter(text.get(place));
            if (kind == NONE || into.size == MOST_MESSAGES) {
                return place;
            }
            for (int k = 1; k <= 2; k++) {
                if (!text.has(place + k)) {
                    return text.size;
                }
                if (!isCorner(text.get(place + k) - FIRST_CORNER_LETTER)) {
                    return place + k;
                }
            }
            into.add(kind, text.get(place + 1) - FIRST_CORNER_LETTER, text.get(place + 2) - FIRST_CORNER_LETTER);
            place += 3;
        }
        return into.size == 0 ? text.size : NONE;
    }

    private static int kindOfLetter(int letter) {
        for (int kind = 0; kind < KINDS; kind++) {
            if (KIND_LETTERS[kind] == letter) {
                return kind;
            }
        }
        return NONE;
    }

    // ---- deeds

    private static int linkDeed(int l) {
        return LINK_DEED + 4 * l;
    }

    private static int aimDeed(int i, int c) {
        return AIM_DEED + 4 * (CORNERS * i + c);
    }

    private int lotDeed(int lot) {
        int choice = lot % 4;
        if (choice == 0) {
            return linkDeed(lot / 8 % LINKS);
        }
        if (choice == 1 && now.size > 0) {
            return aimDeed(lot / 8 % now.size, lot / 64 % CORNERS);
        }
        return STEP_DEED;
    }

    private void perform(int deed) {
        deeds.append(deed);
        now.obey(deed);
    }

    /** The state follows from the start and the deeds alone, so going back is doing fewer of them again. */
    private void replay() {
        now.take(start);
        for (int k = 0; k < deeds.size; k++) {
            now.obey(deeds.get(k));
        }
    }

    private int turnOver(int l) {
        if (deeds.size >= MOST_DEEDS) {
            return FULL;
        }
        perform(linkDeed(l));
        return now.howManyBroken();
    }

    // ---- helpers of single calls

    private int tally(int what) {
        switch (what) {
            case 0:
                return now.size;
            case 1:
                return now.number;
            case 2:
                return deeds.size;
            case 3:
                return now.hops;
            case 4:
                return now.howManyBroken();
            case 5:
                return now.thereBits();
            case 6:
                return present(rows);
            case 7:
                return present(texts);
            case 8:
                return present(kept);
            case 9:
                return howManyAre(HIGH);
            default:
                return howManyAre(DODGE);
        }
    }

    private static int present(Strip[] strips) {
        int there = 0;
        for (int k = 0; k < strips.length; k++) {
            there += strips[k].isMissing() ? 0 : 1;
        }
        return there;
    }

    private int howManyAre(int kind) {
        int many = 0;
        for (int i = 0; i < now.size; i++) {
            many += isOf(now.kind[i], kind) ? 1 : 0;
        }
        return many;
    }

    private int lazyWishes(int i) {
        int wishes = 0;
        for (int s = 0; s < 4; s++) {
            wishes += now.wishAs(LAZY, i, now.number + s) == NO_WAY ? 0 : 1;
        }
        return wishes;
    }

    private void countUses(int n) {
        for (int l = 0; l < LINKS; l++) {
            uses[l] = 0;
        }
        aside.take(now);
        for (int s = 0; s < n; s++) {
            aside.advance();
            for (int i = 0; i < aside.size; i++) {
                if (aside.wentJustNow(i)) {
                    uses[Web.linkAt(aside.corner[i], aside.lastWay[i])]++;
                }
            }
        }
    }

    private int wholeOnLowWay(int a, int b) {
        int corner = a;
        int whole = 0;
        for (int w = 0; w < WAYS; w++) {
            if (((a ^ b) >> w & 1) != 0) {
                whole += (now.broken & Web.arc(corner, w)) == 0 ? 1 : 0;
                corner ^= 1 << w;
            }
        }
        return whole;
    }

    /** 0, if message i can be sought by the sights in row r. */
    private int refuseSights(int i, int r) {
        if (!now.hasMessage(i) || !isRow(r)) {
            return BAD;
        }
        Strip sights = rows[r];
        if (sights.isMissing()) {
            return found(NOTHING);
        }
        if (sights.size == 0 || sights.size > LOOKS) {
            return found(SIZE);
        }
        for (int k = 0; k < sights.size; k++) {
            if (!isCorner(sights.get(k))) {
                return found(UNLIKE);
            }
        }
        return 0;
    }

    private boolean asideFits(int i, Strip sights) {
        for (int k = 0; k < sights.size; k++) {
            aside.advance();
            if (aside.corner[i] != sights.get(k)) {
                return false;
            }
        }
        return true;
    }

    private int fittingKinds(int i, Strip sights) {
        int set = 0;
        for (int kind = 0; kind < KINDS; kind++) {
            aside.take(now);
            aside.kind[i] = kind;
            set |= asideFits(i, sights) ? 1 << kind : 0;
        }
        return set;
    }

    private void lookAhead(int i, int set) {
        for (int kind = 0; kind < KINDS; kind++) {
            if ((set >> kind & 1) != 0) {
                aside.take(now);
                aside.kind[i] = kind;
                for (int look = 0; look < LOOKS; look++) {
                    aside.advance();
                    looks[kind][look] = aside.corner[i];
                }
            }
        }
    }

    private int greatestPart(int set, int look) {
        int greatest = 0;
        for (int c = 0; c < CORNERS; c++) {
            int part = 0;
            for (int kind = 0; kind < KINDS; kind++) {
                part += (set >> kind & 1) != 0 && looks[kind][look] == c ? 1 : 0;
            }
            greatest = Math.max(greatest, part);
        }
        return greatest;
    }

    /** Ints of a number up to a limit, or missing: a row, a text's bytes, a list of deeds. */
    private static final class Strip {
        private static final int MISSING = -1;
        private final int[] places;
        int size = MISSING;

        Strip(int limit) {
            places = new int[Math.max(limit, 0)];
        }

        boolean isMissing() {
            return size < 0;
        }

        void drop() {
            size = MISSING;
        }

        void renew(int n, int v) {
            size = Math.max(0, Math.min(n, places.length));
            for (int i = 0; i < size; i++) {
                places[i] = v;
            }
        }

        boolean has(int i) {
            return i >= 0 && i < size;
        }

        /** Written so that no sum runs over. */
        boolean hasMany(int i, int n) {
            return i >= 0 && n >= 0 && n <= size - i;
        }

        int get(int i) {
            return has(i) ? places[i] : 0;
        }

        int set(int i, int v) {
            int before = get(i);
            if (has(i)) {
                places[i] = v;
            }
            return before;
        }

        void append(int v) {
            if (size >= 0 && size < places.length) {
                places[size] = v;
                size++;
            }
        }

        void shorten(int n) {
            size = Math.max(0, Math.min(n, size));
        }

        void take(Strip from) {
            size = Math.min(from.size, places.length);
            for (int i = 0; i < size; i++) {
                places[i] = from.get(i);
            }
        }

        void takePart(Strip from, int i, int j, int n) {
            if (from.hasMany(i, n) && hasMany(j, n)) {
                System.arraycopy(from.places, i, places, j, n);
            }
        }

        long digested(long before) {
            long h = 31 * before + size;
            for (int i = 0; i < size; i++) {
                h = 31 * h + places[i];
            }
            return h;
        }
    }

    /** Messages and broken links as they are at one time. */
    private static final class Cube {
        /** Lazy ones come round after 2 steps, proud ones after 3, the others at once. */
        private static final int ROUND = 6;
        final int[] kind = new int[MOST_MESSAGES];
        final int[] corner = new int[MOST_MESSAGES];
        final int[] goal = new int[MOST_MESSAGES];
        final int[] lastWay = new int[MOST_MESSAGES];
        int size;
        /** The arcs of broken links, both of each. */
        long broken;
        int number;
        int hops;
        int lastAway;
        private int gone;

        void clear() {
            size = 0;
            broken = 0;
            number = 0;
            hops = 0;
            lastAway = 0;
            gone = 0;
        }

        void add(int k, int from, int to) {
            if (size < MOST_MESSAGES) {
                kind[size] = k;
                corner[size] = from;
                goal[size] = to;
                lastWay[size] = NO_WAY;
                size++;
            }
        }

        void take(Cube from) {
            for (int i = 0; i < MOST_MESSAGES; i++) {
                kind[i] = from.kind[i];
                corner[i] = from.corner[i];
                goal[i] = from.goal[i];
                lastWay[i] = from.lastWay[i];
            }
            size = from.size;
            broken = from.broken;
            number = from.number;
            hops = from.hops;
            lastAway = from.lastAway;
            gone = from.gone;
        }

        boolean hasMessage(int i) {
            return i >= 0 && i < size;
        }

        boolean isBroken(int l) {
            return (broken & Web.arcsOf(l)) != 0;
        }

        int howManyBroken() {
            return Long.bitCount(broken) / 2;
        }

        void turnOverLink(int l) {
            broken ^= Web.arcsOf(l);
        }

        void setGoal(int i, int c) {
            if (hasMessage(i)) {
                goal[i] = c;
            }
        }

        boolean isThere(int i) {
            return hasMessage(i) && corner[i] == goal[i];
        }

        boolean wentJustNow(int i) {
            return (gone >> i & 1) != 0;
        }

        int thereBits() {
            int set = 0;
            for (int i = 0; i < size; i++) {
                set |= isThere(i) ? 1 << i : 0;
            }
            return set;
        }

        int fact(int i, int what) {
            if (!hasMessage(i)) {
                return NONE;
            }
            switch (what) {
                case 0:
                    return kind[i];
                case 1:
                    return corner[i];
                case 2:
                    return goal[i];
                case 3:
                    return toldWay(wish(i));
                case 4:
                    return Integer.bitCount(corner[i] ^ goal[i]);
                default:
                    return toldWay(lastWay[i]);
            }
        }

        private static int toldWay(int way) {
            return way == NO_WAY ? NONE : way;
        }

        int wish(int i) {
            return hasMessage(i) ? wishAs(kind[i], i, number) : NO_WAY;
        }

        /** By which way message i, were it of kind k, would wish to go in a step of that number. */
        int wishAs(int k, int i, int stepNumber) {
            if (!hasMessage(i)) {
                return NO_WAY;
            }
            int unlike = corner[i] ^ goal[i];
            switch (k) {
                case HIGH:
                    return highestWay(unlike);
                case LAZY:
                    return stepNumber % 2 != 0 ? NO_WAY : lowestBit(unlike);
                case DODGE:
                    return dodgingWay(i);
                case PROUD:
                    return stepNumber % 3 == 0 ? lowestBit(unlike) : highestWay(unlike);
                case SLY:
                    int way = dodgingWay(i);
                    return way == lastWay[i] ? NO_WAY : way;
                default:
                    return lowestBit(unlike);
            }
        }

        private int dodgingWay(int i) {
            int unlike = corner[i] ^ goal[i];
            if (unlike == 0) {
                return NO_WAY;
            }
            int whole = wholeWays(corner[i]);
            return lowestBit((unlike & whole) != 0 ? unlike & whole : whole);
        }

        int wholeWays(int c) {
            int set = 0;
            for (int w = 0; w < WAYS; w++) {
                set |= (broken >>> (CORNERS * w + c) & 1) == 0 ? 1 << w : 0;
            }
            return set;
        }

        /** The lowest bit of a set of ways or messages; NO_WAY, if it is empty. */
        private static int lowestBit(int set) {
            for (int bit = 0; bit < MOST_MESSAGES; bit++) {
                if ((set >> bit & 1) != 0) {
                    return bit;
                }
            }
            return NO_WAY;
        }

        private static int highestWay(int ways) {
            for (int w = WAYS - 1; w >= 0; w--) {
                if ((ways >> w & 1) != 0) {
                    return w;
                }
            }
            return NO_WAY;
        }

        /** A step. Nobody's wish hangs on the others, so each can go as soon as it has wished. */
        void advance() {
            long closed = broken;
            gone = 0;
            for (int i = 0; i < size; i++) {
                int way = wishAs(kind[i], i, number);
                if (way != NO_WAY && (closed & Web.arc(corner[i], way)) == 0) {
                    closed |= Web.arc(corner[i], way);
                    corner[i] ^= 1 << way;
                    lastWay[i] = way;
                    gone |= 1 << i;
                }
            }
            number++;
            hops += Integer.bitCount(gone);
        }

        /** Goes on until all are there; lastAway is then the lowest that was not there a step ahead of that. */
        int stepsTillAllThere() {
            lastAway = 0;
            int idle = 0;
            for (int steps = 0; steps <= AHEAD && idle < ROUND; steps++) {
                int away = (1 << size) - 1 & ~thereBits();
                if (away == 0) {
                    return steps;
                }
                lastAway = lowestBit(away);
                advance();
                idle = gone == 0 ? idle + 1 : 0;
            }
            return NOT_BY_THEN;
        }

        /** Does what a deed's number says: what it is by its lowest two bits, the rest with which. */
        void obey(int deed) {
            int detail = deed >> 2;
            switch (deed & 3) {
                case LINK_DEED:
                    turnOverLink(detail);
                    break;
                case AIM_DEED:
                    setGoal(detail / CORNERS, detail % CORNERS);
                    break;
                default:
                    if (number < LAST_STEP) {
                        advance();
                    }
                    break;
            }
        }
    }

    /**
     * The links between corners. Each link has two arcs, one from each of its ends. Sets of arcs have sixteen bits
     * for each way, one a corner, so that a set of corners goes all its links of one way by a shift.
     */
    private static final class Web {
        /** For each way the corners without its bit. */
        private static final int[] LOWER_ENDS = {0x5555, 0x3333, 0x0f0f, 0x00ff};

        static int wayOf(int l) {
            return l >> 3 & 3;
        }

        static int lowerEnd(int l) {
            int way = wayOf(l);
            int rest = l & 7;
            return rest >> way << (way + 1) | rest & (1 << way) - 1;
        }

        static int linkAt(int corner, int way) {
            int above = corner >> (way + 1) << way;
            return (8 * way + (above | corner & (1 << way) - 1)) & 31;
        }

        static long arc(int corner, int way) {
            return 1L << (CORNERS * way + corner);
        }

        static long arcsOf(int l) {
            int way = wayOf(l);
            int end = lowerEnd(l);
            return arc(end, way) | arc(end | 1 << way, way);
        }

        /** The corners of a set and those beside them. */
        static int spread(long whole, int set) {
            int wider = set;
            for (int w = 0; w < WAYS; w++) {
                int lowers = (int) (whole >>> (CORNERS * w)) & LOWER_ENDS[w];
                int shift = 1 << w;
                wider |= (set & lowers) << shift | set >> shift & lowers;
            }
            return wider;
        }

        static int distance(long whole, int a, int b) {
            int set = 1 << a;
            for (int d = 0; d < CORNERS; d++) {
                if ((set >> b & 1) != 0) {
                    return d;
                }
                set = spread(whole, set);
            }
            return APART;
        }

        /**
         * How far both are behind so many turns, the first of them by one who snaps. Answers that are not above
         * floor, or not below ceiling, are all alike to those who asked, so they end the search.
         */
        private static int snapTurn(long whole, int a, int b, int turns, int floor, int ceiling) {
            if (turns <= 0) {
                return distance(whole, a, b);
            }
            int best = mendTurn(whole, a, b, turns - 1, floor, ceiling);
            for (int l = 0; l < LINKS && best < ceiling; l++) {
                long arcs = arcsOf(l);
                if ((whole & arcs) != 0) {
                    int next = mendTurn(whole & ~arcs, a, b, turns - 1, Math.max(best, floor), ceiling);
                    best = Math.max(best, next);
                }
            }
            return best;
        }

        private static int mendTurn(long whole, int a, int b, int turns, int floor, int ceiling) {
            if (turns <= 0) {
                return distance(whole, a, b);
            }
            int best = snapTurn(whole, a, b, turns - 1, floor, ceiling);
            for (int l = 0; l < LINKS && best > floor; l++) {
                long arcs = arcsOf(l);
                if ((whole & arcs) == 0) {
                    int next = snapTurn(whole | arcs, a, b, turns - 1, floor, Math.min(best, ceiling));
                    best = Math.min(best, next);
                }
            }
            return best;
        }
    }

    /** As many links part two corners as there are ways between them that share no link; these are sought. */
    private static final class Parting {
        private final int[] met = new int[CORNERS];
        private final int[] cameBy = new int[CORNERS];
        private long used;

        int fewest(long broken, int a, int b) {
            used = 0;
            for (int ways = 0; ways < WAYS; ways++) {
                if (!findsWay(broken, a, b)) {
                    return ways;
                }
                useWay(a, b);
            }
            return WAYS;
        }

        /** Seeks one way more; cameBy tells it from its end. */
        private boolean findsWay(long broken, int a, int b) {
            int seen = 1 << a;
            int many = 1;
            met[0] = a;
            for (int k = 0; k < many && k < CORNERS; k++) {
                for (int w = 0; w < WAYS; w++) {
                    int next = met[k] ^ 1 << w;
                    boolean free = ((broken | used) & Web.arc(met[k], w)) == 0;
                    if (free && (seen >> next & 1) == 0 && many < CORNERS) {
                        seen |= 1 << next;
                        cameBy[next] = w;
                        met[many] = next;
                        many++;
                    }
                }
            }
            return (seen >> b & 1) != 0;
        }

        private void useWay(int a, int b) {
            int corner = b;
            for (int k = 0; k < CORNERS && corner != a; k++) {
                int way = cameBy[corner];
                int before = corner ^ 1 << way;
                use(before, corner, way);
                corner = before;
            }
        }

        /** Going against a way that was found earlier takes that link out of both. */
        private void use(int corner, int next, int w) {
            if ((used & Web.arc(next, w)) != 0) {
                used &= ~Web.arc(next, w);
            } else {
                used |= Web.arc(corner, w);
            }
        }
    }
}
