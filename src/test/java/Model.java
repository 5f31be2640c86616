import java.util.ArrayDeque;
import java.util.ArrayList;
import java.util.Arrays;
import java.util.List;
import java.util.TreeMap;

/**
 * The document once more, as plain and as slow as it can be told: whole states are kept for each deed, parting
 * links, duels and chances are tried out one by one. ModelTests holds CubeHops against it.
 */
final class Model {
    static final int BAD = -1, FULL = -2, FINDING = -3, STATE = -4, NONE = -9;
    static final String LETTERS = "lhzdps";

    static final class Msg implements Cloneable {
        int kind, corner, goal, last = NONE;

        Msg twin() {
            Msg m = new Msg();
            m.kind = kind;
            m.corner = corner;
            m.goal = goal;
            m.last = last;
            return m;
        }
    }

    static final class World {
        List<Msg> msgs = new ArrayList<>();
        boolean[] broken = new boolean[32];
        int step, hops;
        int[] through = new int[32];

        World twin() {
            World w = new World();
            for (Msg m : msgs) {
                w.msgs.add(m.twin());
            }
            w.broken = broken.clone();
            w.step = step;
            w.hops = hops;
            return w;
        }

        Integer low(Msg m) {
            for (int w = 0; w < 4; w++) {
                if (((m.corner ^ m.goal) & (1 << w)) != 0) {
                    return w;
                }
            }
            return NONE;
        }

        int high(Msg m) {
            int best = NONE;
            for (int w = 0; w < 4; w++) {
                if (((m.corner ^ m.goal) & (1 << w)) != 0) {
                    best = w;
                }
            }
            return best;
        }

        int dodge(Msg m) {
            int low = low(m);
            if (low == NONE || !broken[linkOf(m.corner, low)]) {
                return low;
            }
            for (int w = 0; w < 4; w++) {
                if (((m.corner ^ m.goal) & (1 << w)) != 0 && !broken[linkOf(m.corner, w)]) {
                    return w;
                }
            }
            for (int w = 0; w < 4; w++) {
                if (!broken[linkOf(m.corner, w)]) {
                    return w;
                }
            }
            return NONE;
        }

        int wish(Msg m, int kind, int number) {
            switch (kind) {
                case 0: return low(m);
                case 1: return high(m);
                case 2: return number % 2 == 1 ? NONE : low(m);
                case 3: return dodge(m);
                case 4: return number % 3 == 0 ? low(m) : high(m);
                default: {
                    int way = dodge(m);
                    return way != NONE && way == m.last ? NONE : way;
                }
            }
        }

        int go() {
            int n = msgs.size();
            int[] wish = new int[n];
            int[] from = new int[n];
            for (int i = 0; i < n; i++) {
                wish[i] = wish(msgs.get(i), msgs.get(i).kind, step);
                from[i] = msgs.get(i).corner;
            }
            int goings = 0;
            for (int i = 0; i < n; i++) {
                if (wish[i] == NONE || broken[linkOf(from[i], wish[i])]) {
                    continue;
                }
                boolean first = true;
                for (int j = 0; j < i; j++) {
                    if (wish[j] == wish[i] && from[j] == from[i]) {
                        first = false;
                    }
                }
                if (first) {
                    Msg m = msgs.get(i);
                    through[linkOf(from[i], wish[i])]++;
                    m.corner = from[i] ^ (1 << wish[i]);
                    m.last = wish[i];
                    goings++;
                }
            }
            step++;
            hops += goings;
            return goings;
        }

        boolean allThere() {
            for (Msg m : msgs) {
                if (m.corner != m.goal) {
                    return false;
                }
            }
            return true;
        }
    }

    /** Numbers all links by the document's words, once for each end. */
    static int linkOf(int corner, int way) {
        String bits = "";
        for (int b = 3; b >= 0; b--) {
            if (b != way) {
                bits += (corner >> b) & 1;
            }
        }
        return 8 * way + Integer.parseInt(bits, 2);
    }

    static final int[] LOWER = new int[32], UPPER = new int[32];

    static {
        for (int c = 0; c < 16; c++) {
            for (int w = 0; w < 4; w++) {
                int l = linkOf(c, w);
                LOWER[l] = Math.min(c, c ^ (1 << w));
                UPPER[l] = Math.max(c, c ^ (1 << w));
            }
        }
    }

    private final int[][] rows = new int[6][];
    private final byte[][] texts = new byte[4][];
    private List<World> past = new ArrayList<>();
    private World world = new World();
    private final List<List<World>> keptPast = new ArrayList<>(Arrays.asList(null, null, null));
    private final World[] keptWorld = new World[3];
    private int asked, finding;
    private long upper, lower = 1;
    private final int[] found = new int[6];

    private int find(int f) {
        finding = f;
        found[f]++;
        return FINDING;
    }

    private int tell(int answer, int what) {
        asked = what;
        return answer;
    }

    private boolean msg(int i) {
        return i >= 0 && i < world.msgs.size();
    }

    private static boolean in(int x, int least, int most) {
        return x >= least && x <= most;
    }

    int row(int r, int n) {
        if (!in(r, 0, 5) || n > 40) return BAD;
        if (n < 0) return find(5);
        rows[r] = new int[n];
        return n;
    }

    int lay(int r, int i, int v) {
        if (!in(r, 0, 5)) return BAD;
        if (rows[r] == null) return find(1);
        if (!in(i, 0, rows[r].length - 1)) return find(2);
        int was = rows[r][i];
        rows[r][i] = v;
        return tell(1, was);
    }

    int at(int r, int i) {
        if (!in(r, 0, 5)) return BAD;
        if (rows[r] == null) return find(1);
        if (!in(i, 0, rows[r].length - 1)) return find(2);
        return tell(1, rows[r][i]);
    }

    int tear(int r) {
        if (!in(r, 0, 5)) return BAD;
        if (rows[r] == null) return find(1);
        rows[r] = null;
        return 1;
    }

    int copy(int r, int i, int to, int j, int n) {
        if (!in(r, 0, 5) || !in(to, 0, 5)) return BAD;
        if (n < 0) return find(5);
        if (rows[r] == null || rows[to] == null) return find(1);
        if (i < 0 || j < 0 || (long) i + n > rows[r].length || (long) j + n > rows[to].length) return find(2);
        int[] taken = Arrays.copyOfRange(rows[r], i, i + n);
        for (int k = 0; k < n; k++) {
            rows[to][j + k] = taken[k];
        }
        return 1;
    }

    int mean(int r) {
        if (!in(r, 0, 5)) return BAD;
        if (rows[r] == null) return find(1);
        if (rows[r].length == 0) return find(4);
        return tell(1, (int) (Arrays.stream(rows[r]).asLongStream().sum() / rows[r].length));
    }

    int text(int t, int n) {
        if (!in(t, 0, 3) || n > 60) return BAD;
        if (n < 0) return find(5);
        texts[t] = new byte[n];
        Arrays.fill(texts[t], (byte) ' ');
        return n;
    }

    int put(int t, int i, int v) {
        if (!in(t, 0, 3)) return BAD;
        if (texts[t] == null) return find(1);
        if (!in(i, 0, texts[t].length - 1)) return find(2);
        int was = texts[t][i];
        texts[t][i] = (byte) v;
        return was + 1000;
    }

    /** A machine of states 0 (between), 1 (kind read), 2 (corner read), sign by sign. */
    private int read(byte[] text, List<Msg> into) {
        int state = 0;
        Msg m = null;
        for (int p = 0; p < text.length; p++) {
            char sign = (char) (text[p] & 255);
            if (state == 0) {
                if (sign == ' ') continue;
                int kind = LETTERS.indexOf(sign);
                if (kind < 0 || into.size() == 7) return p;
                m = new Msg();
                m.kind = kind;
                state = 1;
            } else {
                if (sign < 'a' || sign > 'p') return p;
                if (state == 1) {
                    m.corner = sign - 'a';
                    state = 2;
                } else {
                    m.goal = sign - 'a';
                    into.add(m);
                    state = 0;
                }
            }
        }
        return state != 0 || into.isEmpty() ? text.length : NONE;
    }

    int fault(int t) {
        if (!in(t, 0, 3)) return BAD;
        if (texts[t] == null) return find(1);
        return read(texts[t], new ArrayList<>());
    }

    int cube(int t) {
        if (!in(t, 0, 3)) return BAD;
        if (texts[t] == null) return find(1);
        World w = new World();
        if (read(texts[t], w.msgs) != NONE) return STATE;
        world = w;
        past = new ArrayList<>();
        for (int k = 0; k < 3; k++) {
            keptPast.set(k, null);
            keptWorld[k] = null;
        }
        return w.msgs.size();
    }

    private int fact(int i, int what) {
        Msg m = world.msgs.get(i);
        switch (what) {
            case 0: return m.kind;
            case 1: return m.corner;
            case 2: return m.goal;
            case 3: return world.wish(m, m.kind, world.step);
            case 4: return Integer.bitCount(m.corner ^ m.goal);
            default: return m.last;
        }
    }

    int message(int i, int what) {
        if (!msg(i) || !in(what, 0, 5)) return BAD;
        return tell(1, fact(i, what));
    }

    private static boolean is(int kind, int wanted) {
        int[] above = {-1, 0, 0, 0, 1, 3};
        for (int k = kind; k >= 0; k = above[k]) {
            if (k == wanted) return true;
        }
        return false;
    }

    private int wayAs(Msg m, int kind) {
        int way = world.wish(m, kind, world.step);
        return way == NONE ? -1 : way;
    }

    int mark(int i, int kind) {
        if (!msg(i) || !in(kind, 1, 5)) return BAD;
        Msg m = world.msgs.get(i);
        if (!is(m.kind, kind)) return find(3);
        int n = 0;
        switch (kind) {
            case 1: return wayAs(m, m.kind) - wayAs(m, 0) + 10;
            case 2:
                for (int s = 0; s < 4; s++) {
                    n += world.wish(m, 2, world.step + s) == NONE ? 0 : 1;
                }
                return n;
            case 3:
                for (int w = 0; w < 4; w++) {
                    n += world.broken[linkOf(m.corner, w)] ? 1 : 0;
                }
                return n;
            case 4: return wayAs(m, m.kind) != wayAs(m, 1) ? 1 : 0;
            default: return wayAs(m, m.kind) != wayAs(m, 3) ? 1 : 0;
        }
    }

    int link(int l) {
        if (!in(l, 0, 31)) return BAD;
        return tell(world.broken[l] ? 1 : 0, LOWER[l] + 16 * UPPER[l]);
    }

    private void remember() {
        past.add(world);
        world = world.twin();
    }

    private int brokenNow() {
        int n = 0;
        for (boolean b : world.broken) {
            n += b ? 1 : 0;
        }
        return n;
    }

    int step() {
        if (world.msgs.isEmpty() || world.step >= 99) return STATE;
        if (past.size() >= 40) return FULL;
        remember();
        return world.go();
    }

    int snap(int l) {
        if (!in(l, 0, 31)) return BAD;
        if (world.msgs.isEmpty() || world.broken[l]) return STATE;
        if (past.size() >= 40) return FULL;
        remember();
        world.broken[l] = true;
        return brokenNow();
    }

    int mend(int l) {
        if (!in(l, 0, 31)) return BAD;
        if (!world.broken[l]) return STATE;
        if (past.size() >= 40) return FULL;
        remember();
        world.broken[l] = false;
        return brokenNow();
    }

    int aim(int i, int c) {
        if (!msg(i) || !in(c, 0, 15)) return BAD;
        int had = world.msgs.get(i).goal;
        if (had == c) return STATE;
        if (past.size() >= 40) return FULL;
        remember();
        world.msgs.get(i).goal = c;
        return had;
    }

    int undo(int n) {
        if (!in(n, 0, past.size())) return BAD;
        int undone = past.size() - n;
        if (undone > 0) {
            world = past.get(n);
            past = new ArrayList<>(past.subList(0, n));
        }
        return undone;
    }

    int keep(int k) {
        if (!in(k, 0, 2)) return BAD;
        if (world.msgs.isEmpty()) return STATE;
        keptPast.set(k, new ArrayList<>(past));
        keptWorld[k] = world.twin();
        return past.size();
    }

    int on(int k) {
        if (!in(k, 0, 2)) return BAD;
        if (keptWorld[k] == null) return find(1);
        past = new ArrayList<>(keptPast.get(k));
        world = keptWorld[k].twin();
        return past.size();
    }

    int later(int i, int n) {
        if (!msg(i) || !in(n, 0, 60)) return BAD;
        World w = world.twin();
        int hops = 0;
        for (int s = 0; s < n; s++) {
            hops += w.go();
        }
        return tell(w.msgs.get(i).corner, hops);
    }

    int arrives(int i) {
        if (!msg(i)) return BAD;
        World w = world.twin();
        int made = 0;
        for (int s = 0; s <= 60; s++) {
            Msg m = w.msgs.get(i);
            if (m.corner == m.goal) return tell(s, made);
            int before = m.corner;
            w.go();
            made += m.corner != before ? 1 : 0;
        }
        return NONE;
    }

    /** Steps till all are there, 61 for none, and who was away a step ahead. */
    private static int[] allIn(World from) {
        World w = from.twin();
        int away = 0;
        for (int s = 0; s <= 60; s++) {
            if (w.allThere()) return new int[] {s, away};
            for (int i = w.msgs.size() - 1; i >= 0; i--) {
                if (w.msgs.get(i).corner != w.msgs.get(i).goal) {
                    away = i;
                }
            }
            w.go();
        }
        return new int[] {61, 0};
    }

    int all() {
        if (world.msgs.isEmpty()) return STATE;
        int[] in = allIn(world);
        return in[0] == 61 ? NONE : tell(in[0], in[1]);
    }

    int tight(int n) {
        if (!in(n, 1, 40)) return BAD;
        if (world.msgs.isEmpty()) return STATE;
        World w = world.twin();
        for (int s = 0; s < n; s++) {
            w.go();
        }
        int most = Arrays.stream(w.through).max().getAsInt();
        if (most == 0) return NONE;
        for (int l = 0; ; l++) {
            if (w.through[l] == most) return tell(l, most);
        }
    }

    /** Links from a to each corner, 16: no way. */
    static int[] fromCorner(boolean[] broken, int a) {
        int[] far = new int[16];
        Arrays.fill(far, 16);
        far[a] = 0;
        ArrayDeque<Integer> queue = new ArrayDeque<>();
        queue.add(a);
        while (!queue.isEmpty()) {
            int c = queue.remove();
            for (int w = 0; w < 4; w++) {
                int d = c ^ (1 << w);
                if (far[d] == 16 && !broken[linkAt(c, w)]) {
                    far[d] = far[c] + 1;
                    queue.add(d);
                }
            }
        }
        return far;
    }

    private static final int[] LINK_AT = new int[64];

    static {
        for (int k = 0; k < 64; k++) {
            LINK_AT[k] = linkOf(k / 4, k % 4);
        }
    }

    private static int linkAt(int c, int w) {
        return LINK_AT[4 * c + w];
    }

    int far(int a, int b) {
        if (!in(a, 0, 15) || !in(b, 0, 15)) return BAD;
        int far = fromCorner(world.broken, a)[b];
        return far == 16 ? NONE : far;
    }

    int reach(int c) {
        if (!in(c, 0, 15)) return BAD;
        int[] far = fromCorner(world.broken, c);
        int set = 0, most = 0;
        for (int d = 0; d < 16; d++) {
            if (far[d] < 16) {
                set |= 1 << d;
                most = Math.max(most, far[d]);
            }
        }
        return tell(set, most);
    }

    int parts(int a, int b) {
        if (!in(a, 0, 15) || !in(b, 0, 15) || a == b) return BAD;
        int least = 32;
        for (int side = 0; side < 65536; side++) {
            if ((side >> a & 1) == 1 && (side >> b & 1) == 0) {
                int cut = 0;
                for (int l = 0; l < 32; l++) {
                    if (!world.broken[l] && (side >> LOWER[l] & 1) != (side >> UPPER[l] & 1)) {
                        cut++;
                    }
                }
                least = Math.min(least, cut);
            }
        }
        return least;
    }

    int hurts() {
        if (world.msgs.isEmpty()) return STATE;
        int plain = allIn(world)[0];
        TreeMap<Integer, Integer> first = new TreeMap<>();
        for (int l = 0; l < 32; l++) {
            if (!world.broken[l]) {
                World w = world.twin();
                w.broken[l] = true;
                first.putIfAbsent(allIn(w)[0], l);
            }
        }
        if (first.isEmpty() || first.lastKey() <= plain) return NONE;
        return tell(first.lastEntry().getValue(), first.lastKey());
    }

    private int[] path(int i, int kind, int goal, int steps) {
        World w = world.twin();
        Msg m = w.msgs.get(i);
        m.kind = kind;
        m.goal = goal;
        int[] path = new int[steps];
        for (int s = 0; s < steps; s++) {
            w.go();
            path[s] = m.corner;
        }
        return path;
    }

    private int refuse(int i, int r) {
        if (!msg(i) || !in(r, 0, 5)) return BAD;
        if (rows[r] == null) return find(1);
        if (!in(rows[r].length, 1, 20)) return find(5);
        for (int c : rows[r]) {
            if (!in(c, 0, 15)) return find(3);
        }
        return 0;
    }

    int goals(int i, int r) {
        int no = refuse(i, r);
        if (no != 0) return no;
        int set = 0;
        for (int g = 0; g < 16; g++) {
            if (Arrays.equals(path(i, world.msgs.get(i).kind, g, rows[r].length), rows[r])) {
                set |= 1 << g;
            }
        }
        return set;
    }

    int kinds(int i, int r) {
        int no = refuse(i, r);
        if (no != 0) return no;
        int set = 0;
        for (int k = 0; k < 6; k++) {
            if (Arrays.equals(path(i, k, world.msgs.get(i).goal, rows[r].length), rows[r])) {
                set |= 1 << k;
            }
        }
        return set;
    }

    int test(int i, int r) {
        int set = kinds(i, r);
        if (set < 0) return set;
        if (set == 0) return NONE;
        int best = 0, least = 99;
        for (int s = 1; s <= 20; s++) {
            int[] crowd = new int[16];
            for (int k = 0; k < 6; k++) {
                if ((set >> k & 1) == 1) {
                    crowd[path(i, k, world.msgs.get(i).goal, 20)[s - 1]]++;
                }
            }
            int most = Arrays.stream(crowd).max().getAsInt();
            if (most < least) {
                least = most;
                best = s;
            }
        }
        return tell(best, least);
    }

    private static int play(boolean[] broken, int a, int b, int left, boolean snaps) {
        if (left == 0) return fromCorner(broken, a)[b];
        int best = play(broken, a, b, left - 1, !snaps);
        for (int l = 0; l < 32; l++) {
            if (broken[l] != snaps) {
                broken[l] = snaps;
                int then = play(broken, a, b, left - 1, !snaps);
                broken[l] = !snaps;
                best = snaps ? Math.max(best, then) : Math.min(best, then);
            }
        }
        return best;
    }

    int duel(int a, int b, int n) {
        if (!in(a, 0, 15) || !in(b, 0, 15) || a == b || !in(n, 0, 3)) return BAD;
        return play(world.broken.clone(), a, b, n, true);
    }

    private List<Integer> lowWay(int a, int b) {
        World w = new World();
        Msg m = new Msg();
        m.corner = a;
        m.goal = b;
        List<Integer> links = new ArrayList<>();
        for (int way = w.low(m); way != NONE; way = w.low(m)) {
            links.add(linkOf(m.corner, way));
            m.corner ^= 1 << way;
        }
        return links;
    }

    /** Goes through all ways in which those links that are whole may break. */
    private int chances(int a, int b, int p, boolean mean) {
        List<Integer> links = lowWay(a, b);
        int n = links.size();
        long up = 0, low = 1;
        for (int k = 0; k < n; k++) {
            low *= 12;
        }
        for (int fate = 0; fate < 1 << n; fate++) {
            long weight = 1;
            int whole = 0;
            for (int k = 0; k < n; k++) {
                boolean breaks = (fate >> k & 1) == 1;
                weight *= breaks ? p : 12 - p;
                whole += !breaks && !world.broken[links.get(k)] ? 1 : 0;
            }
            up += mean ? weight * whole : whole == n ? weight : 0;
        }
        long common = java.math.BigInteger.valueOf(up).gcd(java.math.BigInteger.valueOf(low)).longValue();
        upper = up / common;
        lower = low / common;
        return 1;
    }

    int odds(int a, int b, int p) {
        return !in(a, 0, 15) || !in(b, 0, 15) || !in(p, 0, 12) ? BAD : chances(a, b, p, false);
    }

    int mid(int a, int b, int p) {
        return !in(a, 0, 15) || !in(b, 0, 15) || !in(p, 0, 12) ? BAD : chances(a, b, p, true);
    }

    int lots(int n, int seed) {
        if (!in(n, 1, 20) || !in(seed, 1, 2147483646)) return BAD;
        if (world.msgs.isEmpty()) return STATE;
        if (past.size() + n > 40) return FULL;
        long x = seed;
        for (int k = 0; k < n; k++) {
            x = Math.floorMod(48271L * x, 2147483647L);
            remember();
            if (x % 4 == 0) {
                int l = (int) (x / 8 % 32);
                world.broken[l] = !world.broken[l];
            } else if (x % 4 == 1) {
                world.msgs.get((int) (x / 8 % world.msgs.size())).goal = (int) (x / 64 % 16);
            } else if (world.step < 99) {
                world.go();
            }
        }
        return world.hops;
    }

    int asked() {
        return asked;
    }

    long upper() {
        return upper;
    }

    long lower() {
        return lower;
    }

    private static int there(Object[] things) {
        int n = 0;
        for (Object o : things) {
            n += o == null ? 0 : 1;
        }
        return n;
    }

    int count(int what) {
        int n = 0;
        switch (what) {
            case 0: return world.msgs.size();
            case 1: return world.step;
            case 2: return past.size();
            case 3: return world.hops;
            case 4: return brokenNow();
            case 5:
                for (int i = 0; i < world.msgs.size(); i++) {
                    n += world.msgs.get(i).corner == world.msgs.get(i).goal ? 1 << i : 0;
                }
                return n;
            case 6: return there(rows);
            case 7: return there(texts);
            case 8: return there(keptWorld);
            case 9: return (int) world.msgs.stream().filter(m -> is(m.kind, 1)).count();
            case 10: return (int) world.msgs.stream().filter(m -> is(m.kind, 3)).count();
            default: return BAD;
        }
    }

    int finding() {
        return finding;
    }

    int findings(int f) {
        return in(f, 1, 5) ? found[f] : BAD;
    }

    long digest() {
        List<Long> all = new ArrayList<>();
        for (int what = 0; what <= 10; what++) {
            all.add((long) count(what));
        }
        for (int i = 0; i < world.msgs.size(); i++) {
            for (int what = 0; what <= 5; what++) {
                all.add((long) fact(i, what));
            }
        }
        for (boolean b : world.broken) {
            all.add(b ? 1L : 0L);
        }
        for (List<World> k : keptPast) {
            all.add(k == null ? -1L : k.size());
        }
        for (int[] row : rows) {
            all.add(row == null ? -1L : row.length);
            for (int k = 0; row != null && k < row.length; k++) {
                all.add((long) row[k]);
            }
        }
        for (byte[] text : texts) {
            all.add(text == null ? -1L : text.length);
            for (int k = 0; text != null && k < text.length; k++) {
                all.add((long) text[k]);
            }
        }
        long h = 17;
        for (long v : all) {
            h = 31 * h + v;
        }
        return h;
    }
}
