/** What the tests of the boundary cases share: floors and texts made ready, and all that can be asked of a floor. */
final class Bench {
    static final int LOWEST = Integer.MIN_VALUE;
    static final int HIGHEST = Integer.MAX_VALUE;
    private String words = "";
    private int asked = 0;
    private int wrong = 0;

    /** The document's words that name the boundary which the next answers are about. */
    void of(String namedBy) { words = namedBy; }

    void due(String call, long got, long want) {
        asked++;
        if (got != want) {
            wrong++;
            System.out.println("<" + words + "> " + call + " answered " + got + ", due is " + want);
        }
    }

    void due(String call, boolean got, boolean want) { due(call, got ? 1 : 0, want ? 1 : 0); }

    /** Whether all that can be asked is as it was before a call. */
    void unchanged(String call, CrackedMud x, String before) {
        due(call + " leaves all as it was", picture(x).equals(before), true);
    }

    void close() {
        System.out.println(wrong == 0 ? asked + " answers are as due" : wrong + " of " + asked + " answers are not as due");
        if (wrong > 0) System.exit(1);
    }

    static void tape(CrackedMud x, String text) {
        x.end(0);
        for (int at = 0; at < text.length(); at += 20) {
            int[] n = new int[5];
            for (int k = 0; k < 20; k++) n[k / 4] |= (at + k < text.length() ? text.charAt(at + k) & 255 : 0) << 24 - k % 4 * 8;
            x.feed(n[0], n[1], n[2], n[3], n[4]);
        }
        x.end(text.length());
    }

    static int law(CrackedMud x, String text) { tape(x, text); return x.law(); }
    static int want(CrackedMud x, String text) { tape(x, text); return x.want(); }

    /** What a text is answered that has a fault of a sort at a place. */
    static int fault(int place, int sort) { return -2 - (1 + 8 * place + sort); }

    /** A wet floor, each edge of which has the same grain. */
    static CrackedMud floor(int layers, int grain) {
        CrackedMud x = new CrackedMud();
        x.begin(layers, 0, grain, grain);
        return x;
    }

    /** The same with a law. */
    static CrackedMud floor(int layers, int grain, String law) {
        CrackedMud x = floor(layers, grain);
        law(x, law);
        return x;
    }

    /**
     * A floor whose top is dry and so strong that only edges that are scratched wholly tear.
     * By law 0 up to nine new tears come in a tick, by law 1 none.
     */
    static CrackedMud strong(int layers) {
        CrackedMud x = floor(layers, 9999, "let 1;most 9");
        law(x, "let 1;most 0");
        for (int c = 0; c < 100; c++) x.press(c % 10, c / 10, 0, 0);
        return x;
    }

    static void weaken(CrackedMud x, int... edges) { for (int e : edges) x.scratch(e, 9999); }

    /** Tears these edges, one a tick. */
    static void rip(CrackedMud x, int... edges) {
        for (int e : edges) {
            weaken(x, e);
            x.tick(0, 1);
        }
    }

    /** A floor on which all 180 edges are torn. */
    static CrackedMud shattered(int layers) {
        CrackedMud x = floor(layers, 1, "dry 1000;let 1;most 9");
        x.tick(0, 60);
        return x;
    }

    /** All that can be asked of an object, as one text. */
    static String picture(CrackedMud x) {
        StringBuilder b = new StringBuilder();
        for (int w = 0; w < 18; w++) b.append(x.count(w)).append(' ');
        for (int c = 0; c < 100; c++) for (int w = 0; w < 8; w++) b.append(x.cell(c % 10, c / 10, w)).append(' ');
        for (int e = 0; e < 180; e++) for (int w = 0; w < 8; w++) b.append(x.edge(0, e, w)).append(' ');
        for (int r = 0; r < 100; r++) for (int w = 0; w < 3; w++) b.append(x.room(r, w)).append(' ');
        for (int t = 0; t < x.count(12); t++) {
            for (int w = 0; w < 6; w++) b.append(x.tear(t, w)).append(' ');
            b.append(x.rank(t)).append(' ').append(x.older(0, t)).append(' ');
        }
        for (int r = 0; r < x.count(15); r++) {
            for (int w = 0; w < 8; w++) b.append(x.rounds(r, w)).append(' ');
            b.append(x.around(r)).append(' ');
        }
        for (int p = 0; p < 2; p++) b.append(x.order(p)).append(' ').append(x.wide(p)).append(' ').append(x.finger(p)).append(' ');
        return b.append(forecast(x)).toString();
    }

    /** What comes by the laws and wants that there are; it shows tips, candidates and images, too. */
    private static String forecast(CrackedMud x) {
        StringBuilder b = new StringBuilder();
        for (int k = 0; k < 8; k++) {
            b.append(x.met(k)).append(' ').append(x.lead(0, k, 1)).append(' ');
            b.append(x.ahead(k, 3, 0)).append(' ').append(x.half(k, 3, 49)).append(' ').append(x.much(k, 1)).append(' ');
            b.append(x.slow(k, 1)).append(' ').append(x.whole(k, 2)).append(' ');
            for (int i = 0; i < 4; i++) b.append(x.miss(k, i)).append(' ');
        }
        for (int i = 0; i < 4; i++) b.append(x.likeliest(i)).append(' ');
        return b.toString();
    }
}
