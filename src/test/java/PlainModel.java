import java.util.ArrayList;
import java.util.Arrays;
import java.util.HashSet;
import java.util.List;
import java.util.Set;
import java.util.TreeMap;

/**
 * The document once more, as plainly and slowly as can be, with other means than the class:
 * sets of edges, a tree for each text, everything reckoned anew when it is asked.
 */
final class PlainModel {
    // ---- texts ----
    static final class Bad extends RuntimeException {
        private static final long serialVersionUID = 1L;
        final int code;
        Bad(int place, int sort) { super(null, null, false, false); code = 1 + 8 * place + sort; }
    }

    interface Tree { long value(TreeMap<String, Long> words); }

    static final class Clause {
        String kind;
        Tree sum;
        Tree test;
        int number;
    }

    static final class Parser {
        final byte[] t;
        final boolean want;
        int p = 0;
        int things = 0;
        final List<Clause> clauses = new ArrayList<>();
        static final List<String> NUMBERED = List.of("notch", "heal", "scar", "let", "most", "deepen");
        static final List<String> LAW_WORDS = List.of("x", "y", "tick", "wet", "shade", "salt", "way");
        static final List<String> WANT_WORDS = List.of("rooms", "tees", "crosses", "turns", "ends", "torn", "tears",
            "sides", "least", "greatest", "tick");

        Parser(byte[] t, boolean want) { this.t = t; this.want = want; }

        void blanks() { while (p < t.length && t[p] == 32) p++; }
        int peek() { blanks(); return p < t.length ? t[p] & 255 : -1; }
        String word() {
            blanks();
            int q = p;
            StringBuilder b = new StringBuilder();
            while (q < t.length && t[q] >= 'a' && t[q] <= 'z') b.append((char) t[q++]);
            return b.toString();
        }

        List<Clause> text() {
            while (true) {
                clauses.add(clause());
                int c = peek();
                if (c == -1) return clauses;
                if (c != ';') throw new Bad(p, 0);
                p++;
            }
        }

        Clause clause() {
            String w = word();
            Clause made = new Clause();
            made.kind = w;
            boolean known = want ? w.equals("want") || w.equals("not")
                : w.equals("dry") || w.equals("tear") || NUMBERED.contains(w);
            if (!known) throw new Bad(p, 0);
            if (clauses.size() == 12) throw new Bad(p, 4);
            for (Clause other : clauses) {
                if (other.kind.equals(w) && NUMBERED.contains(w)) throw new Bad(p, 4);
            }
            p += w.length();
            if (want) {
                made.test = test(0);
            } else if (NUMBERED.contains(w)) {
                int least = w.equals("let") ? 1 : 0;
                int most = w.equals("let") || w.equals("most") ? 9 : 1000;
                made.number = number(least, most);
            } else {
                made.sum = sum();
                if (word().equals("if")) {
                    p += 2;
                    made.test = test(0);
                }
            }
            return made;
        }

        int number(int least, int most) {
            int c = peek();
            if (c < '0' || c > '9') throw new Bad(p, 0);
            int q = p;
            long n = 0;
            while (q < t.length && t[q] >= '0' && t[q] <= '9') { n = Math.min(n * 10 + t[q] - '0', 1L << 40); q++; }
            if (q - p > 5 || n < least || n > most) throw new Bad(p, 1);
            p = q;
            return (int) n;
        }

        Tree test(int deep) {
            Tree left = part(deep);
            while (word().equals("or")) {
                p += 2;
                Tree a = left;
                Tree b = part(deep);
                left = words -> a.value(words) != 0 || b.value(words) != 0 ? 1 : 0;
            }
            return left;
        }

        Tree part(int deep) {
            Tree left = fact(deep);
            while (word().equals("and")) {
                p += 3;
                Tree a = left;
                Tree b = fact(deep);
                left = words -> a.value(words) != 0 && b.value(words) != 0 ? 1 : 0;
            }
            return left;
        }

        Tree fact(int deep) {
            if (word().equals("not")) {
                if (deep == 10) throw new Bad(p, 2);
                p += 3;
                Tree inner = fact(deep + 1);
                return words -> inner.value(words) == 0 ? 1 : 0;
            }
            if (peek() == '[') {
                if (deep == 10) throw new Bad(p, 2);
                p++;
                Tree inner = test(deep + 1);
                if (peek() != ']') throw new Bad(p, 0);
                p++;
                return inner;
            }
            Tree a = sum();
            int c = peek();
            if (c != '<' && c != '=' && c != '>') throw new Bad(p, 0);
            if (++things > 60) throw new Bad(p, 3);
            p++;
            boolean orEqual = c != '=' && p < t.length && t[p] == '=';
            if (orEqual) p++;
            Tree b = sum();
            return words -> {
                long l = a.value(words);
                long r = b.value(words);
                if (l == r) return orEqual || c == '=' ? 1 : 0;
                return c == '<' && l < r || c == '>' && l > r ? 1 : 0;
            };
        }

        Tree sum() {
            Tree left = term();
            while (peek() == '+' || peek() == '-') {
                boolean plus = t[p++] == '+';
                Tree a = left;
                Tree b = term();
                left = words -> plus ? a.value(words) + b.value(words) : a.value(words) - b.value(words);
            }
            return left;
        }

        Tree term() {
            Tree left = value();
            while (peek() == '*' || peek() == '/') {
                boolean times = t[p++] == '*';
                Tree a = left;
                Tree b = value();
                left = words -> {
                    long l = a.value(words);
                    long r = b.value(words);
                    return times ? l * r : r == 0 ? 0 : l / r;
                };
            }
            return left;
        }

        Tree value() {
            int c = peek();
            int start = p;
            Tree made;
            if (c >= '0' && c <= '9') {
                int n = number(0, 99999);
                made = words -> n;
            } else {
                String w = word();
                if (!(want ? WANT_WORDS : LAW_WORDS).contains(w)) throw new Bad(p, 0);
                p += w.length();
                made = words -> words.get(w);
            }
            if (++things > 60) throw new Bad(start, 3);
            return made;
        }
    }

    // ---- the floor ----
    static final class Tip {
        int i;
        int j;
        int di;
        int dj;
        int ended = -3;
        Tip(int i, int j, int di, int dj) { this.i = i; this.j = j; this.di = di; this.dj = dj; }
        Tip copy() { Tip c = new Tip(i, j, di, dj); c.ended = ended; return c; }
    }

    static final class Crack {
        int began;
        int tick;
        int aside = 0;
        Tip[] tips = new Tip[2];
        Crack copy() {
            Crack c = new Crack();
            c.began = began; c.tick = tick; c.aside = aside;
            c.tips[0] = tips[0].copy(); c.tips[1] = tips[1].copy();
            return c;
        }
    }

    static final class Floor {
        int layers;
        int seed;
        int least;
        int greatest;
        Object begun = new Object();
        int ticks = 0;
        int[][][] wet;
        int[][] shade = new int[10][10];
        int[][] salt = new int[10][10];
        int[] grain = new int[180];
        int[] scratch = new int[180];
        Integer[] torn = new Integer[180];
        int[] depth = new int[180];
        Set<Integer> scars = new HashSet<>();
        List<Crack> cracks = new ArrayList<>();
        List<int[]> rounds = new ArrayList<>();
        TreeMap<Integer, int[]> candidates = new TreeMap<>();

        Floor(int layers, int seed, int least, int greatest) {
            this.layers = layers; this.seed = seed; this.least = least; this.greatest = greatest;
            wet = new int[layers][10][10];
            for (int[][] layer : wet) for (int[] row : layer) Arrays.fill(row, 1000);
            long x = seed;
            for (int e = 0; e < 180; e++) {
                x = Math.floorMod(x * 1103515245L + 12345L, 1L << 31);
                grain[e] = (int) (least + x / 65536 % (greatest - least + 1));
            }
        }

        Floor copy() {
            Floor c = new Floor(layers, seed, least, greatest);
            c.begun = begun;
            c.ticks = ticks;
            for (int l = 0; l < layers; l++) for (int x = 0; x < 10; x++) c.wet[l][x] = wet[l][x].clone();
            for (int x = 0; x < 10; x++) { c.shade[x] = shade[x].clone(); c.salt[x] = salt[x].clone(); }
            c.scratch = scratch.clone();
            c.torn = torn.clone();
            c.depth = depth.clone();
            c.scars = new HashSet<>(scars);
            for (Crack k : cracks) c.cracks.add(k.copy());
            c.rounds = new ArrayList<>(rounds);
            c.candidates = new TreeMap<>(candidates);
            return c;
        }
    }

    static int way(int e) { return e < 90 ? 0 : 1; }
    static int ex(int e) { return e < 90 ? e % 9 : (e - 90) % 10; }
    static int ey(int e) { return e < 90 ? e / 9 : (e - 90) / 10; }
    static int ox(int e) { return way(e) == 0 ? ex(e) + 1 : ex(e); }
    static int oy(int e) { return way(e) == 0 ? ey(e) : ey(e) + 1; }

    /** The two nodes: i, j, i, j. */
    static int[] nodes(int e) {
        return way(e) == 0 ? new int[] {ex(e) + 1, ey(e), ex(e) + 1, ey(e) + 1}
            : new int[] {ex(e), ey(e) + 1, ex(e) + 1, ey(e) + 1};
    }

    static int between(int i, int j, int i2, int j2) {
        for (int e = 0; e < 180; e++) {
            int[] n = nodes(e);
            if (n[0] == i && n[1] == j && n[2] == i2 && n[3] == j2) return e;
            if (n[2] == i && n[3] == j && n[0] == i2 && n[1] == j2) return e;
        }
        return -1;
    }

    static boolean border(int i, int j) { return i == 0 || j == 0 || i == 10 || j == 10; }

    Floor f = null;
    final List<List<Clause>> laws = new ArrayList<>();
    final List<List<Clause>> wants = new ArrayList<>();
    final Floor[] images = new Floor[4];
    byte[] tape = new byte[0];

    static int setting(List<Clause> law, String kind, int without) {
        for (Clause c : law) if (c.kind.equals(kind)) return c.number;
        return without;
    }

    static long sumOf(List<Clause> law, String kind, TreeMap<String, Long> words) {
        for (Clause c : law) {
            if (c.kind.equals(kind) && (c.test == null || c.test.value(words) != 0)) return c.sum.value(words);
        }
        return 0;
    }

    static TreeMap<String, Long> words(int x, int y, int tick, int wet, int shade, int salt, int way) {
        TreeMap<String, Long> w = new TreeMap<>();
        w.put("x", (long) x); w.put("y", (long) y); w.put("tick", (long) tick); w.put("wet", (long) wet);
        w.put("shade", (long) shade); w.put("salt", (long) salt); w.put("way", (long) way);
        return w;
    }

    static int holds(Floor f, List<Clause> law, int e) {
        int x = ex(e), y = ey(e), x2 = ox(e), y2 = oy(e);
        long s = sumOf(law, "tear", words(x, y, f.ticks, f.wet[0][x][y] + f.wet[0][x2][y2],
            f.shade[x][y] + f.shade[x2][y2], f.salt[x][y] + f.salt[x2][y2], way(e)));
        s = s < -9999 ? -9999 : s > 9999 ? 9999 : s;
        long h = f.grain[e] - f.scratch[e] + s;
        if (f.scars.contains(e)) h = Math.floorDiv(h * setting(law, "scar", 1000), 1000L);
        return (int) Math.max(1, h);
    }

    static int reach(Floor f, int x, int y, int dx, int dy, int let) {
        int cells = 0;
        while (x >= 0 && x < 10 && y >= 0 && y < 10) {
            cells++;
            int nx = x + dx, ny = y + dy;
            if (nx < 0 || nx > 9 || ny < 0 || ny > 9) break;
            int e = dx != 0 ? 9 * y + Math.min(x, nx) : 90 + 10 * Math.min(y, ny) + x;
            if (f.torn[e] != null) break;
            x = nx;
            y = ny;
        }
        return Math.min(cells, let);
    }

    static int pull(Floor f, List<Clause> law, int e) {
        int let = setting(law, "let", 3);
        int dry = 1000 - f.wet[0][ex(e)][ey(e)] + 1000 - f.wet[0][ox(e)][oy(e)];
        int dx = way(e) == 0 ? 1 : 0;
        int both = reach(f, ex(e), ey(e), -dx, dx - 1, let) + reach(f, ox(e), oy(e), dx, 1 - dx, let);
        return dry * both / (2 * let);
    }

    static int endOf(Floor f, int i, int j, int by) {
        if (border(i, j)) return -2;
        for (int e = 0; e < 180; e++) {
            int[] n = nodes(e);
            boolean there = n[0] == i && n[1] == j || n[2] == i && n[3] == j;
            if (there && e != by && f.torn[e] != null) return f.torn[e];
        }
        return -3;
    }

    static void ripped(Floor f, int e, int crack) {
        f.torn[e] = crack;
        f.depth[e] = 1;
        f.scars.remove(e);
    }

    static void tickOnce(Floor f, List<Clause> law, int part) {
        for (int x = 0; x < 10; x++) {
            for (int y = 0; y < 10; y++) {
                int wet = f.wet[0][x][y];
                long s = sumOf(law, "dry", words(x, y, f.ticks, wet, f.shade[x][y], f.salt[x][y], 0));
                s = s < 0 ? 0 : s > wet ? wet : s;
                f.wet[0][x][y] -= (int) (s * part / 100);
                for (int l = 0; l + 1 < f.layers; l++) {
                    int up = (f.wet[l + 1][x][y] - f.wet[l][x][y]) / 8;
                    f.wet[l][x][y] += up;
                    f.wet[l + 1][x][y] -= up;
                }
            }
        }
        for (int c = 0; c < f.cracks.size(); c++) for (Tip tip : f.cracks.get(c).tips) goOn(f, law, c, tip);
        for (int k = 0; k < setting(law, "most", 1) && f.cracks.size() < 200; k++) {
            int best = -1;
            int most = 0;
            for (int e = 0; e < 180; e++) {
                if (f.torn[e] != null) continue;
                int above = pull(f, law, e) - holds(f, law, e);
                if (above > most) { most = above; best = e; }
            }
            if (best < 0) break;
            Crack c = new Crack();
            c.began = best;
            c.tick = f.ticks;
            ripped(f, best, f.cracks.size());
            f.cracks.add(c);
            int[] n = nodes(best);
            c.tips[0] = new Tip(n[0], n[1], n[0] - n[2], n[1] - n[3]);
            c.tips[1] = new Tip(n[2], n[3], n[2] - n[0], n[3] - n[1]);
            for (Tip tip : c.tips) tip.ended = endOf(f, tip.i, tip.j, best);
        }
        for (int e = 0; e < 180; e++) {
            int d = f.depth[e];
            if (f.torn[e] != null && d < f.layers
                && f.wet[d][ex(e)][ey(e)] + f.wet[d][ox(e)][oy(e)] <= 2 * setting(law, "deepen", 0)) f.depth[e]++;
        }
        f.ticks++;
    }

    static void goOn(Floor f, List<Clause> law, int crack, Tip tip) {
        if (tip.ended != -3) return;
        // y grows downwards: to the left of (di, dj) is (dj, -di)
        int[][] ways = {{tip.di, tip.dj}, {tip.dj, -tip.di}, {-tip.dj, tip.di}};
        int best = -1;
        int bestEdge = -1;
        for (int k = 0; k < 3; k++) {
            int e = between(tip.i, tip.j, tip.i + ways[k][0], tip.j + ways[k][1]);
            if (e < 0 || f.torn[e] != null) continue;
            int pull = pull(f, law, e);
            if (pull * 1000L < (long) holds(f, law, e) * setting(law, "notch", 1000)) continue;
            if (best < 0 || pull > pull(f, law, bestEdge)) { best = k; bestEdge = e; }
        }
        if (best < 0) return;
        ripped(f, bestEdge, crack);
        if (best > 0) f.cracks.get(crack).aside++;
        tip.di = ways[best][0];
        tip.dj = ways[best][1];
        tip.i += tip.di;
        tip.j += tip.dj;
        tip.ended = endOf(f, tip.i, tip.j, bestEdge);
    }

    static int rainOn(Floor f, List<Clause> law, int n) {
        int heal = setting(law, "heal", 1000);
        for (int[] row : f.wet[0]) for (int k = 0; k < 10; k++) row[k] = Math.min(1000, row[k] + n);
        int healed = 0;
        for (int e = 0; e < 180; e++) {
            if (f.torn[e] == null || f.wet[0][ex(e)][ey(e)] < heal || f.wet[0][ox(e)][oy(e)] < heal) continue;
            f.torn[e] = null;
            f.depth[e] = 0;
            f.scars.add(e);
            healed++;
        }
        for (int c = 0; c < f.cracks.size(); c++) {
            if (edgesOf(f, c) > 0) continue;
            for (Tip tip : f.cracks.get(c).tips) if (tip.ended == -3) tip.ended = c;
        }
        return healed;
    }

    static int edgesOf(Floor f, int crack) {
        int n = 0;
        for (Integer t : f.torn) if (t != null && t == crack) n++;
        return n;
    }

    static int tornOf(Floor f) {
        int n = 0;
        for (Integer t : f.torn) if (t != null) n++;
        return n;
    }

    // ---- rooms ----
    /** For each cell 10 * y + x its room. */
    static int[] rooms(Floor f) {
        int[] room = new int[100];
        for (int c = 0; c < 100; c++) room[c] = c;
        boolean changes = true;
        while (changes) {
            changes = false;
            for (int e = 0; e < 180; e++) {
                if (f.torn[e] != null) continue;
                int a = 10 * ey(e) + ex(e), b = 10 * oy(e) + ox(e);
                int least = Math.min(room[a], room[b]);
                if (room[a] != room[b]) { room[a] = least; room[b] = least; changes = true; }
            }
        }
        return room;
    }

    static boolean rim(int[] room, int r) {
        for (int c = 0; c < 100; c++) {
            if (room[c] == r && (c % 10 == 0 || c % 10 == 9 || c / 10 == 0 || c / 10 == 9)) return true;
        }
        return false;
    }

    static int sizeOf(int[] room, int r) {
        int n = 0;
        for (int k : room) if (k == r) n++;
        return n;
    }

    static int sidesOf(Floor f, int[] room, int r) {
        Set<Integer> others = new HashSet<>();
        for (int e = 0; e < 180; e++) {
            if (f.torn[e] == null) continue;
            int a = room[10 * ey(e) + ex(e)], b = room[10 * oy(e) + ox(e)];
            if (a == r && b != r) others.add(b);
            if (b == r && a != r) others.add(a);
        }
        return others.size() + (rim(room, r) ? 1 : 0);
    }

    static TreeMap<String, Long> figures(Floor f) {
        TreeMap<String, Long> w = new TreeMap<>();
        int[] room = rooms(f);
        long rooms = 0, all = 0, sides = 0, least = 1000, greatest = 0;
        for (int r = 0; r < 100; r++) {
            int size = sizeOf(room, r);
            if (size == 0) continue;
            rooms++;
            int s = sidesOf(f, room, r);
            all += s;
            sides = Math.max(sides, s);
            least = Math.min(least, size);
            greatest = Math.max(greatest, size);
        }
        long ends = 0, turns = 0, tees = 0, crosses = 0;
        for (int i = 1; i < 10; i++) {
            for (int j = 1; j < 10; j++) {
                int ways = 0, n = 0;
                int[] around = {between(i, j, i, j - 1), between(i, j, i, j + 1), between(i, j, i - 1, j), between(i, j, i + 1, j)};
                for (int e : around) if (f.torn[e] != null) { n++; ways += way(e); }
                if (n == 1) ends++;
                if (n == 2 && ways == 1) turns++;
                if (n == 3) tees++;
                if (n == 4) crosses++;
            }
        }
        long tears = 0;
        for (int c = 0; c < f.cracks.size(); c++) if (edgesOf(f, c) > 0) tears++;
        w.put("rooms", rooms); w.put("tees", tees); w.put("crosses", crosses); w.put("turns", turns);
        w.put("ends", ends); w.put("torn", (long) tornOf(f)); w.put("tears", tears); w.put("sides", sides);
        w.put("least", least); w.put("greatest", greatest); w.put("tick", (long) f.ticks); w.put("all", all);
        return w;
    }

    static boolean isMet(Floor f, List<Clause> want) {
        TreeMap<String, Long> w = figures(f);
        for (Clause c : want) if ((c.test.value(w) != 0) != c.kind.equals("want")) return false;
        return true;
    }

    // ---- who is older ----
    /** [a][b]: a is older than b. */
    static boolean[][] olders(Floor f) {
        int n = f.cracks.size();
        boolean[][] o = new boolean[n][n];
        for (int b = 0; b < n; b++) {
            for (Tip tip : f.cracks.get(b).tips) if (tip.ended >= 0 && tip.ended != b) o[tip.ended][b] = true;
        }
        for (int k = 0; k < n; k++) for (int a = 0; a < n; a++) {
            if (o[a][k]) for (int b = 0; b < n; b++) if (o[k][b]) o[a][b] = true;
        }
        return o;
    }

    // ---- the calls ----
    boolean lawIs(int k) { return k >= 0 && k < laws.size(); }
    boolean wantIs(int k) { return k >= 0 && k < wants.size(); }
    boolean crackIs(int k) { return f != null && k >= 0 && k < f.cracks.size(); }
    static boolean in(int n, int a, int b) { return a <= n && n <= b; }

    boolean begin(int layers, int seed, int least, int greatest) {
        if (!in(layers, 1, 4) || seed < 0 || !in(least, 1, 9999) || !in(greatest, 1, 9999) || greatest < least) return false;
        f = new Floor(layers, seed, least, greatest);
        return true;
    }

    int press(int x, int y, int what, int n) {
        if (f == null || !in(x, 0, 9) || !in(y, 0, 9) || !in(what, 0, 5) || what < 4 && what >= f.layers) return -1;
        if (!in(n, 0, what < 4 ? 1000 : 9)) return -1;
        int[][] rows = what < 4 ? f.wet[what] : what == 4 ? f.shade : f.salt;
        int was = rows[x][y];
        rows[x][y] = n;
        return was;
    }

    int cell(int x, int y, int what) {
        if (f == null || !in(x, 0, 9) || !in(y, 0, 9) || !in(what, 0, 7) || what < 4 && what >= f.layers) return -1;
        if (what < 4) return f.wet[what][x][y];
        if (what == 4) return f.shade[x][y];
        if (what == 5) return f.salt[x][y];
        return what == 6 ? 1000 - f.wet[0][x][y] : rooms(f)[10 * y + x];
    }

    int scratch(int e, int n) {
        if (f == null || !in(e, 0, 179) || !in(n, 0, 9999)) return -1;
        int was = f.scratch[e];
        f.scratch[e] = n;
        return was;
    }

    int edge(int law, int e, int what) {
        if (f == null || !in(e, 0, 179) || !in(what, 0, 7) || what > 5 && !lawIs(law)) return -2;
        if (what == 0) return f.torn[e] != null ? 1 : 0;
        if (what == 1) return f.torn[e] != null ? f.torn[e] : -1;
        if (what == 2) return f.torn[e] != null ? f.depth[e] : 0;
        if (what == 3) return f.grain[e];
        if (what == 4) return f.scratch[e];
        if (what == 5) return f.scars.contains(e) ? 1 : 0;
        return what == 6 ? holds(f, laws.get(law), e) : pull(f, laws.get(law), e);
    }

    int feed(int... five) {
        if (tape.length + 20 > 400) return -1;
        int n = tape.length;
        tape = Arrays.copyOf(tape, n + 20);
        for (int k = 0; k < 20; k++) tape[n + k] = (byte) (five[k / 4] >>> 24 - k % 4 * 8);
        return tape.length;
    }

    int end(int n) {
        if (n < 0 || n > tape.length) return -1;
        tape = Arrays.copyOf(tape, n);
        return n;
    }

    private int text(List<List<Clause>> into, boolean want) {
        if (into.size() == 8) return -1;
        byte[] t = tape;
        tape = new byte[0];
        try {
            into.add(new Parser(t, want).text());
            return into.size() - 1;
        } catch (Bad bad) {
            return -2 - bad.code;
        }
    }

    int law() { return text(laws, false); }
    int want() { return text(wants, true); }

    int tick(int law, int n) {
        if (f == null || !lawIs(law) || !in(n, 1, 60) || f.ticks + n > 99999) return -1;
        for (int k = 0; k < n; k++) tickOnce(f, laws.get(law), 100);
        return f.ticks;
    }

    int rain(int law, int n) {
        return f == null || !lawIs(law) || !in(n, 1, 1000) ? -1 : rainOn(f, laws.get(law), n);
    }

    int tear(int k, int what) {
        if (!crackIs(k) || !in(what, 0, 5)) return -4;
        Crack c = f.cracks.get(k);
        switch (what) {
            case 0: return c.began;
            case 1: return edgesOf(f, k);
            case 2: return c.tips[0].ended;
            case 3: return c.tips[1].ended;
            case 4: return c.tick;
            default: return Math.max(0, edgesOf(f, k) - c.aside);
        }
    }

    int room(int r, int what) {
        if (f == null || !in(r, 0, 99) || !in(what, 0, 2)) return -1;
        int[] room = rooms(f);
        int size = sizeOf(room, r);
        if (size == 0) return -1;
        return what == 0 ? size : what == 1 ? sidesOf(f, room, r) : rim(room, r) ? 1 : 0;
    }

    int count(int what) {
        if (what == 13) return laws.size();
        if (what == 14) return wants.size();
        if (what == 16) return tape.length;
        if (f == null || !in(what, 0, 17)) return -1;
        if (what == 12) return f.cracks.size();
        if (what == 15) return f.rounds.size();
        if (what == 17) return f.scars.size();
        String[] names = {"rooms", "tees", "crosses", "turns", "ends", "torn", "tears", "sides", "least", "greatest", "tick", "all"};
        return (int) (long) figures(f).get(names[what]);
    }

    int met(int want) { return f == null || !wantIs(want) ? -1 : isMet(f, wants.get(want)) ? 1 : 0; }

    int round() {
        if (f == null || f.rounds.size() == 60) return -1;
        TreeMap<String, Long> w = figures(f);
        int[] line = new int[7];
        String[] names = {"rooms", "ends", "turns", "tees", "crosses", "torn", "all"};
        for (int k = 0; k < 7; k++) line[k] = (int) (long) w.get(names[k]);
        f.rounds.add(line);
        return f.rounds.size();
    }

    static int lowest(int above, int below, boolean wantsAbove) {
        for (int d = 100000; d > 1; d--) {
            if (above % d == 0 && below % d == 0) return wantsAbove ? above / d : below / d;
        }
        return wantsAbove ? above : below;
    }

    int rounds(int r, int what) {
        if (f == null || r < 0 || r >= f.rounds.size() || !in(what, 0, 7)) return -1;
        int[] line = f.rounds.get(r);
        return what < 6 ? line[what] : lowest(line[6], line[0], what == 6);
    }

    int around(int from) {
        if (f == null || from < 0 || from >= f.rounds.size()) return -1;
        for (int r = from; r < f.rounds.size(); r++) {
            if (r == 0) continue;
            int[] now = f.rounds.get(r), was = f.rounds.get(r - 1);
            int n = now[3] + now[4], w = was[3] + was[4];
            if (n > w && now[0] < was[0] || n < w && now[0] > was[0]) return r;
        }
        return -2;
    }

    int older(int a, int b) {
        if (!crackIs(a) || !crackIs(b) || a == b) return -1;
        boolean[][] o = olders(f);
        return o[a][b] && !o[b][a] ? 1 : 0;
    }

    int order(int what) {
        if (f == null || !in(what, 0, 1)) return -1;
        boolean[][] o = olders(f);
        int rings = 0, open = 0;
        for (int a = 0; a < o.length; a++) {
            if (o[a][a]) rings++;
            for (int b = a + 1; b < o.length; b++) {
                boolean sureA = o[a][b] && !o[b][a], sureB = o[b][a] && !o[a][b];
                if (!sureA && !sureB) open++;
            }
        }
        return what == 0 ? rings : open;
    }

    int rank(int k) {
        if (!crackIs(k)) return -1;
        boolean[][] o = olders(f);
        int n = 0;
        for (int a = 0; a < o.length; a++) if (o[a][k] && !o[k][a]) n++;
        return n;
    }

    int wide(int part) {
        if (f == null || !in(part, 0, 1)) return -1;
        int[] room = rooms(f);
        int cells = 0, rooms = 0;
        for (int r = 0; r < 100; r++) {
            if (sizeOf(room, r) == 0 || rim(room, r)) continue;
            rooms++;
            cells += sizeOf(room, r);
        }
        return rooms == 0 ? 0 : lowest(cells, rooms, part == 0);
    }

    int ahead(int law, int n, int what) {
        if (f == null || !lawIs(law) || !in(n, 0, 60) || !in(what, 0, 1)) return -1;
        Floor g = f.copy();
        for (int k = 0; k < n; k++) tickOnce(g, laws.get(law), 100);
        int found = 0;
        for (int e = 0; e < 180; e++) if (g.torn[e] != null && (what == 0 || f.torn[e] == null)) found++;
        return found;
    }

    int half(int law, int n, int e) {
        if (f == null || !lawIs(law) || !in(n, 0, 60) || !in(e, 0, 179)) return -1;
        Floor g = f.copy();
        for (int k = 0; ; k++) {
            if (g.torn[e] != null) return k;
            if (k == n) return -2;
            tickOnce(g, laws.get(law), 100);
        }
    }

    int miss(int law, int k) {
        if (f == null || !lawIs(law) || !in(k, 0, 3) || images[k] == null || images[k].begun != f.begun) return -1;
        int n = f.ticks - images[k].ticks;
        if (!in(n, 0, 60)) return -1;
        Floor g = images[k].copy();
        for (int t = 0; t < n; t++) tickOnce(g, laws.get(law), 100);
        int missed = 0;
        for (int e = 0; e < 180; e++) if ((g.torn[e] == null) != (f.torn[e] == null)) missed++;
        return missed;
    }

    int likeliest(int k) {
        if (f == null || !in(k, 0, 3) || images[k] == null || images[k].begun != f.begun) return -1;
        if (!in(f.ticks - images[k].ticks, 0, 60)) return -1;
        int best = -2, least = 999;
        for (int law = 0; law < laws.size(); law++) {
            int m = miss(law, k);
            if (m < least) { least = m; best = law; }
        }
        return best;
    }

    boolean candidate(int k, int e, int n) {
        if (f == null || !in(k, 0, 5) || !in(e, 0, 179) || !in(n, 0, 9999)) return false;
        f.candidates.put(k, new int[] {e, n});
        return true;
    }

    int lead(int law, int want, int n) {
        if (f == null || !lawIs(law) || !wantIs(want) || !in(n, 0, 20)) return -1;
        int best = -2;
        for (int set = 63; set >= 0; set--) {
            Floor g = f.copy();
            boolean told = true;
            for (int k = 0; k < 6; k++) {
                if ((set & 1 << k) == 0) continue;
                int[] c = f.candidates.get(k);
                if (c == null) told = false;
                else g.scratch[c[0]] = c[1];
            }
            if (!told || best >= 0 && Integer.bitCount(best) < Integer.bitCount(set)) continue;
            for (int t = 0; t < n; t++) tickOnce(g, laws.get(law), 100);
            if (isMet(g, wants.get(want))) best = set;
        }
        return best;
    }

    int slow(int law, int n) {
        if (f == null || !lawIs(law) || !in(n, 0, 20)) return -1;
        for (int part = 100; part >= 0; part--) {
            Floor g = f.copy();
            for (int t = 0; t < n && tornOf(g) == tornOf(f); t++) tickOnce(g, laws.get(law), part);
            if (tornOf(g) == tornOf(f)) return part;
        }
        return -2;
    }

    int whole(int law, int n) {
        if (f == null || !lawIs(law) || !in(n, 0, 20)) return -1;
        for (int layers = 1; layers <= 4; layers++) {
            Floor g = new Floor(layers, f.seed, f.least, f.greatest);
            for (int t = 0; t < n; t++) tickOnce(g, laws.get(law), 100);
            if (tornOf(g) == 0) return layers;
        }
        return -2;
    }

    int much(int law, int m) {
        if (f == null || !lawIs(law) || !in(m, 1, 180)) return -1;
        if (tornOf(f) < m) return -2;
        for (int n = 1; n <= 1000; n++) if (rainOn(f.copy(), laws.get(law), n) >= m) return n;
        return -2;
    }

    int finger(int what) {
        if (f == null || !in(what, 0, 1)) return -1;
        int depths = 0;
        for (int e = 0; e < 180; e++) if (f.torn[e] != null) depths += f.depth[e];
        if (what == 0) return depths;
        return f.ticks == 0 ? 0 : (depths - tornOf(f)) * 1000 / f.ticks;
    }

    int image(int k) {
        if (f == null || !in(k, 0, 3)) return -1;
        images[k] = f.copy();
        return f.ticks;
    }

    int back(int k) {
        if (!in(k, 0, 3) || images[k] == null) return -1;
        f = images[k].copy();
        return f.ticks;
    }
}
