/** The boundary cases of a floor, its ticks and rain: "Terms", and promises 1 to 6 and 11 to 13. */
public final class FloorBoundsTest {
    private static final Bench BENCH = new Bench();
    private static final int LOWEST = Bench.LOWEST;
    private static final int HIGHEST = Bench.HIGHEST;

    private static void of(String words) { BENCH.of(words); }
    private static void due(String call, long got, long want) { BENCH.due(call, got, want); }
    private static void due(String call, boolean got, boolean want) { BENCH.due(call, got, want); }

    private static void cells() {
        of("CELLS (x, y) of 10 by 10");
        CrackedMud x = Bench.floor(1, 500);
        for (int n : new int[] {0, 9}) {
            for (int m : new int[] {0, 9}) {
                due("press " + n + " " + m, x.press(n, m, 0, 100 + 10 * n + m), 1000);
                due("cell " + n + " " + m, x.cell(n, m, 0), 100 + 10 * n + m);
            }
        }
        String before = Bench.picture(x);
        for (int n : new int[] {-1, 10, LOWEST, HIGHEST}) {
            due("press x " + n, x.press(n, 0, 0, 5), -1);
            due("press y " + n, x.press(0, n, 0, 5), -1);
            for (int w = 0; w < 8; w++) {
                due("cell x " + n + " what " + w, x.cell(n, 0, w), -1);
                due("cell y " + n + " what " + w, x.cell(0, n, w), -1);
            }
        }
        BENCH.unchanged("press beside the floor", x, before);
    }

    private static void layers() {
        of("1 to 4 LAYERS (0 the top one)");
        CrackedMud x = new CrackedMud();
        for (int n : new int[] {0, 5, -1, LOWEST, HIGHEST}) due("begin " + n, x.begin(n, 0, 1, 1), false);
        due("no floor", x.count(0), -1);
        for (int layers = 1; layers <= 4; layers++) {
            due("begin " + layers, x.begin(layers, 0, 1, 1), true);
            for (int w = 0; w < 4; w++) {
                due("wet of layer " + w + " of " + layers, x.cell(0, 0, w), w < layers ? 1000 : -1);
                due("press layer " + w + " of " + layers, x.press(0, 0, w, 7), w < layers ? 1000 : -1);
                due("wet of layer " + w + " of " + layers, x.cell(0, 0, w), w < layers ? 7 : -1);
            }
            due("shade has no layer", x.press(0, 0, 4, 3), 0);
            due("salt has no layer", x.press(0, 0, 5, 4), 0);
            due("shade", x.cell(0, 0, 4), 3);
            due("salt", x.cell(0, 0, 5), 4);
        }
        due("a layer less than there was", x.begin(3, 0, 1, 1), true);
        due("is not there", x.cell(0, 0, 3), -1);
        due("and again", x.begin(4, 0, 1, 1), true);
        due("is wet", x.cell(0, 0, 3), 1000);
    }

    private static void pressed() {
        of("WET (0 to 1000)");
        CrackedMud x = Bench.floor(4, 500);
        for (int w = 0; w < 4; w++) {
            due("0 of layer " + w, x.press(3, 4, w, 0), 1000);
            due("1000 of layer " + w, x.press(3, 4, w, 1000), 0);
            for (int n : new int[] {-1, 1001, LOWEST, HIGHEST}) due(n + " of layer " + w, x.press(3, 4, w, n), -1);
            due("stays 1000", x.cell(3, 4, w), 1000);
        }
        of("shade, salt (0 to 9 each; 0 at first)");
        for (int w = 4; w < 6; w++) {
            due("at first " + w, x.cell(3, 4, w), 0);
            due("9 of " + w, x.press(3, 4, w, 9), 0);
            for (int n : new int[] {-1, 10, 1000, LOWEST, HIGHEST}) due(n + " of " + w, x.press(3, 4, w, n), -1);
            due("stays 9", x.press(3, 4, w, 0), 9);
            due("0 of " + w, x.cell(3, 4, w), 0);
        }
        of("what 0 to 3: WET of that LAYER, 4: shade, 5: salt; NONE without these");
        for (int w : new int[] {-1, 6, 7, 8, LOWEST, HIGHEST}) due("press what " + w, x.press(3, 4, w, 5), -1);
        of("6: DRYNESS, 7: its ROOM. NONE without these");
        x.press(3, 4, 0, 0);
        due("driest", x.cell(3, 4, 6), 1000);
        x.press(3, 4, 0, 1000);
        due("wettest", x.cell(3, 4, 6), 0);
        due("room", x.cell(3, 4, 7), 0);
        for (int w : new int[] {-1, 8, LOWEST, HIGHEST}) due("cell what " + w, x.cell(3, 4, w), -1);
    }

    /** Dries one cell alone: by let 1 just the edges at it are pulled. */
    private static void pulls(int cx, int cy, int... edges) {
        CrackedMud x = Bench.floor(1, 500, "let 1");
        x.press(cx, cy, 0, 0);
        int pulled = 0;
        for (int e = 0; e < 180; e++) pulled += x.edge(0, e, 7) == 0 ? 0 : 1;
        due("edges at " + cx + " " + cy, pulled, edges.length);
        for (int e : edges) due("edge " + e + " at " + cx + " " + cy, x.edge(0, e, 7), 1000);
    }

    private static void edges() {
        of("EDGES 0 to 179: 9 * y + x of WAY 0; 90 + 10 * y + x of WAY 1");
        pulls(0, 0, 0, 90);
        pulls(1, 0, 0, 1, 91);
        pulls(9, 0, 8, 99);
        pulls(0, 1, 9, 90, 100);
        pulls(0, 9, 81, 170);
        pulls(9, 9, 89, 179);
        pulls(9, 8, 80, 169, 179);
        pulls(4, 5, 48, 49, 134, 144);
        of("EDGES 0 to 179; -2 without these");
        CrackedMud x = Bench.floor(1, 500, "let 1");
        for (int e : new int[] {-1, 180, LOWEST, HIGHEST}) {
            for (int w = 0; w < 8; w++) due("edge " + e + " what " + w, x.edge(0, e, w), -2);
            due("scratch " + e, x.scratch(e, 5), -1);
        }
        due("scratch 0", x.scratch(0, 5), 0);
        due("scratch 179", x.scratch(179, 6), 0);
        due("edge 0", x.edge(0, 0, 4), 5);
        due("edge 179", x.edge(0, 179, 4), 6);
        int[] dues = {0, -1, 0, 500, 5, 0, 495, 0};
        for (int w = 0; w < 8; w++) due("what " + w, x.edge(0, 0, w), dues[w]);
        for (int w : new int[] {-1, 8, LOWEST, HIGHEST}) due("what " + w, x.edge(0, 0, w), -2);
        of("6, 7 alone ask for the LAW");
        for (int law : new int[] {-1, 1, 7, 8, LOWEST, HIGHEST}) {
            for (int w = 0; w < 6; w++) due("law " + law + " what " + w, x.edge(law, 0, w), dues[w]);
            due("law " + law + " what 6", x.edge(law, 0, 6), -2);
            due("law " + law + " what 7", x.edge(law, 0, 7), -2);
        }
    }

    private static void tips(int edge, int first, int second) {
        CrackedMud x = Bench.strong(1);
        Bench.rip(x, edge);
        due("began at", x.tear(0, 0), edge);
        due("first tip of " + edge, x.tear(0, 2), first);
        due("second tip of " + edge, x.tear(0, 3), second);
    }

    private static void border() {
        of("NODES with i or j 0 or 10 are at the BORDER");
        tips(0, -2, -3);
        tips(8, -2, -3);
        tips(81, -3, -2);
        tips(89, -3, -2);
        tips(90, -2, -3);
        tips(170, -2, -3);
        tips(99, -3, -2);
        tips(179, -3, -2);
        for (int e : new int[] {9, 17, 72, 80, 91, 98, 171, 178}) tips(e, -3, -3);
        of("If that is at the BORDER: the TIP has ENDED");
        int[][] ways = {{9, 0, 2}, {72, 81, 3}, {91, 90, 2}, {98, 99, 3}};
        for (int[] way : ways) {
            CrackedMud x = Bench.strong(1);
            Bench.rip(x, way[0]);
            Bench.weaken(x, way[1]);
            x.tick(1, 1);
            due("by " + way[1], x.tear(0, way[2]), -2);
            due("the other one goes on", x.tear(0, 5 - way[2]), -3);
            x.tick(1, 9);
            due("it goes no further", x.tear(0, 1), 2);
        }
    }

    private static void begun() {
        of("a seed (0 to 2147483647)");
        CrackedMud x = new CrackedMud();
        due("seed -1", x.begin(1, -1, 1, 9999), false);
        due("seed least", x.begin(1, LOWEST, 1, 9999), false);
        due("no floor", x.count(10), -1);
        due("seed 0", x.begin(1, 0, 1, 9999), true);
        of("x / 65536 mod (greatest less least and 1)");
        // 12345, 1406932606, 654583775, 1449466924: by 65536 they are 0, 21468, 9988, 22117
        int[] grains = {1, 21468 - 2 * 9999 + 1, 9989, 22117 - 2 * 9999 + 1};
        for (int e = 0; e < 4; e++) due("grain " + e, x.edge(0, e, 3), grains[e]);
        due("seed 1", x.begin(1, 1, 100, 199), true);
        // 16838, 5758, 10113, 17515
        int[] hundreds = {138, 158, 113, 115};
        for (int e = 0; e < 4; e++) due("grain " + e, x.edge(0, e, 3), hundreds[e]);
        due("the greatest seed", x.begin(1, HIGHEST, 1, 9999), true);
        // it is -1 of 2147483648: -1103515245 + 12345 and that are 1043980748, by 65536 15929
        due("grain 0", x.edge(0, 0, 3), 15929 - 9999 + 1);
        of("a least and a greatest number (1 to 9999); greatest below least, too");
        String before = Bench.picture(x);
        for (int n : new int[] {0, -1, 10000, LOWEST, HIGHEST}) {
            due("least " + n, x.begin(1, 0, n, 9999), false);
            due("greatest " + n, x.begin(1, 0, 1, n), false);
            due("both " + n, x.begin(1, 0, n, n), false);
        }
        due("greatest below", x.begin(1, 0, 2, 1), false);
        due("greatest below", x.begin(1, 0, 9999, 9998), false);
        BENCH.unchanged("a refused begin", x, before);
        for (int n : new int[] {1, 9999}) {
            due("both " + n, x.begin(1, 77, n, n), true);
            for (int e = 0; e < 180; e++) due("grain " + e, x.edge(0, e, 3), n);
        }
        due("two numbers", x.begin(1, 0, 9998, 9999), true);
        for (int e = 0; e < 4; e++) due("grain " + e, x.edge(0, e, 3), new int[] {9998, 9998, 9998, 9999}[e]);
    }

    private static void anew() {
        of("no SCRATCHES, SCARS, TEARS, ROUNDS, CANDIDATES; shade, salt 0");
        CrackedMud x = Bench.strong(2);
        Bench.law(x, "heal 0");
        Bench.want(x, "want torn = 1");
        Bench.rip(x, 40);
        x.rain(2, 1);
        x.scratch(40, 0);
        Bench.rip(x, 20);
        x.press(0, 0, 4, 9);
        x.press(0, 0, 5, 9);
        x.press(0, 0, 1, 9);
        x.round();
        x.candidate(0, 7, 9999);
        due("torn", x.count(5), 1);
        due("scars", x.count(17), 1);
        due("begin", x.begin(2, 0, 9999, 9999), true);
        int[] dues = {1, 0, 0, 0, 0, 0, 0, 1, 100, 100, 0, 1, 0, 3, 1, 0, 0, 0};
        for (int w = 0; w < dues.length; w++) due("count " + w, x.count(w), dues[w]);
        for (int e = 0; e < 180; e++) for (int w = 0; w < 6; w++) {
            due("edge " + e + " what " + w, x.edge(0, e, w), w == 1 ? -1 : w == 3 ? 9999 : 0);
        }
        for (int c = 0; c < 100; c++) for (int w = 0; w < 6; w++) {
            due("cell " + c + " what " + w, x.cell(c % 10, c / 10, w), w < 2 ? 1000 : w < 4 ? -1 : 0);
        }
        due("no tear", x.tear(0, 0), -4);
        due("no round", x.rounds(0, 0), -1);
        due("no depths", x.finger(0), 0);
        for (int c = 0; c < 100; c++) x.press(c % 10, c / 10, 0, 0);
        due("no candidate", x.lead(0, 0, 1), -2);
        x.candidate(0, 7, 9999);
        due("a candidate", x.lead(0, 0, 1), 1);
        of("no TEARS: numbers begin anew");
        x = Bench.strong(1);
        Bench.rip(x, 40, 125, 41);
        due("three edges, two aside", x.tear(0, 1) * 10 + x.tear(0, 5), 31);
        x.begin(1, 0, 9999, 9999);
        for (int c = 0; c < 100; c++) x.press(c % 10, c / 10, 0, 0);
        x.tick(1, 3);
        Bench.rip(x, 20);
        int[] tear = {20, 1, -3, -3, 3, 1};
        for (int w = 0; w < 6; w++) due("what " + w, x.tear(0, w), tear[w]);
        due("no other", x.tear(1, 0), -4);
    }

    private static void holds() {
        of("A SCRATCH of an EDGE (0 to 9999; 0 at first)");
        CrackedMud x = Bench.floor(1, 5, "let 1");
        due("at first", x.edge(0, 3, 4), 0);
        due("0", x.scratch(3, 0), 0);
        due("9999", x.scratch(3, 9999), 0);
        for (int n : new int[] {-1, 10000, LOWEST, HIGHEST}) due("scratch " + n, x.scratch(3, n), -1);
        due("stays", x.edge(0, 3, 4), 9999);
        of("HOLDS: 1 at least");
        int[][] scratches = {{0, 5}, {3, 2}, {4, 1}, {5, 1}, {6, 1}, {9999, 1}};
        for (int[] s : scratches) {
            x.scratch(3, s[0]);
            due("less " + s[0], x.edge(0, 3, 6), s[1]);
        }
        of("tear: held to -9999 to 9999, 0 without");
        due("without", x.edge(0, 4, 6), 5);
        due("9998", heldBy("tear 9998"), 5000 + 9998);
        due("9999", heldBy("tear 9999"), 5000 + 9999);
        due("10000", heldBy("tear 10000"), 5000 + 9999);
        due("-4998", heldBy("tear 0-4998"), 2);
        due("-4999", heldBy("tear 0-4999"), 1);
        due("-5000", heldBy("tear 0-5000"), 1);
        due("-9999", heldBy("tear 0-9999"), 1);
        due("-10000", heldBy("tear 0-10000"), 1);
        due("2 to the 32nd", heldBy("tear 65536*65536"), 5000 + 9999);
        due("that below 0", heldBy("tear 0-65536*65536"), 1);
        due("2 to the 62nd", heldBy("tear 65536*65536*65536*16384"), 5000 + 9999);
        due("2 to the 63rd goes round", heldBy("tear 65536*65536*65536*32768"), 1);
        due("less 1", heldBy("tear 65536*65536*65536*32768-1"), 5000 + 9999);
        due("2 to the 64th goes round", heldBy("tear 65536*65536*65536*65536+3"), 5003);
        due("no test holds", heldBy("tear 7 if 1=2;tear 8 if 2=3"), 5000);
    }

    private static int heldBy(String law) { return Bench.floor(1, 5000, law).edge(0, 0, 6); }

    private static void scars() {
        of("if it is a SCAR, that times scar by 1000, downwards");
        CrackedMud x = Bench.floor(1, 1999, "let 1;heal 0");
        x.press(4, 4, 0, 0);
        x.press(5, 4, 0, 0);
        x.tick(0, 1);
        due("heals", x.rain(0, 1), 1);
        int[][] parts = {{0, 1}, {1, 1}, {500, 999}, {501, 1001}, {999, 1997}, {1000, 1999}};
        for (int k = 0; k < parts.length; k++) {
            due("law", Bench.law(x, "scar " + parts[k][0]), k + 1);
            due("scar " + parts[k][0], x.edge(k + 1, 40, 6), parts[k][1]);
            due("no scar", x.edge(k + 1, 41, 6), 1999);
        }
        x.scratch(40, 1999);
        for (int k = 0; k < parts.length; k++) due("of 0", x.edge(k + 1, 40, 6), 1);
        x.scratch(40, 9999);
        for (int k = 0; k < parts.length; k++) due("of less than 0", x.edge(k + 1, 40, 6), 1);
        of("but a SCAR (till it is TORN again)");
        due("a scar", x.edge(0, 40, 5), 1);
        due("scars", x.count(17), 1);
        x.press(4, 4, 0, 0);
        x.tick(0, 1);
        due("torn", x.edge(0, 40, 0), 1);
        due("a scar no more", x.edge(0, 40, 5), 0);
        due("scars", x.count(17), 0);
    }

    private static void reach() {
        of("REACH: up to the next TORN EDGE of its WAY, or the end of the FLOOR; let at most");
        CrackedMud x = Bench.strong(1);
        Bench.law(x, "let 3");
        Bench.law(x, "let 9");
        Bench.law(x, "let 2");
        int[] threes = {1333, 1666, 2000, 2000, 2000, 2000, 2000, 1666, 1333};
        for (int p = 0; p < 9; p++) {
            for (int e : new int[] {p, 36 + p, 81 + p, 90 + 10 * p, 94 + 10 * p, 99 + 10 * p}) {
                due("let 1 of " + e, x.edge(0, e, 7), 2000);
                due("let 3 of " + e, x.edge(2, e, 7), threes[p]);
                due("let 9 of " + e, x.edge(3, e, 7), 2000 * 10 / 18);
                due("let 2 of " + e, x.edge(4, e, 7), p == 0 || p == 8 ? 1500 : 2000);
            }
        }
        Bench.rip(x, 40);
        int[] parted = {5, 5, 5, 5, 10, 5, 5, 5, 5};
        for (int p = 0; p < 9; p++) {
            due("let 9 in the torn row, " + p, x.edge(3, 36 + p, 7), 2000 * parted[p] / 18);
            due("another row, " + p, x.edge(3, 27 + p, 7), 2000 * 10 / 18);
            due("edges of the other way, " + p, x.edge(3, 94 + 10 * p, 7), 2000 * 10 / 18);
        }
        due("one off by let 3", x.edge(2, 39, 7), 2000 * 4 / 6);
        due("two off", x.edge(2, 38, 7), 2000 * 5 / 6);
        due("three off", x.edge(2, 37, 7), 2000 * 5 / 6);
        Bench.rip(x, 42);
        due("between two", x.edge(3, 41, 7), 2000 * 2 / 18);
        x = Bench.strong(1);
        Bench.law(x, "let 3");
        Bench.law(x, "let 9");
        Bench.rip(x, 134);
        for (int p = 0; p < 9; p++) {
            due("let 9 in the torn column, " + p, x.edge(3, 94 + 10 * p, 7), 2000 * parted[p] / 18);
            due("another column, " + p, x.edge(3, 95 + 10 * p, 7), 2000 * 10 / 18);
            due("edges of the other way, " + p, x.edge(3, 36 + p, 7), 2000 * 10 / 18);
        }
        due("one off by let 3", x.edge(2, 124, 7), 2000 * 4 / 6);
        due("two off", x.edge(2, 114, 7), 2000 * 5 / 6);
        due("three off", x.edge(2, 104, 7), 2000 * 5 / 6);
        due("one off on the other side", x.edge(2, 144, 7), 2000 * 4 / 6);
        due("two off", x.edge(2, 154, 7), 2000 * 5 / 6);
        of("by (2 * let), downwards");
        x = Bench.floor(1, 500, "let 3");
        x.press(0, 0, 0, 999);
        due("1 times 4 by 6", x.edge(0, 0, 7), 0);
        x.press(0, 0, 0, 998);
        due("2 times 4 by 6", x.edge(0, 0, 7), 1);
        x.press(1, 0, 0, 999);
        due("3 times 4 by 6", x.edge(0, 0, 7), 2);
    }

    private static int wetAfter(String law) {
        CrackedMud x = Bench.floor(1, 9999, law);
        x.tick(0, 1);
        return x.cell(0, 0, 0);
    }

    private static void drying() {
        of("dry SUM (held to 0 to that WET)");
        due("no dry", wetAfter("let 1"), 1000);
        due("0", wetAfter("dry 0"), 1000);
        due("-1", wetAfter("dry 0-1"), 1000);
        due("1", wetAfter("dry 1"), 999);
        due("999", wetAfter("dry 999"), 1);
        due("1000", wetAfter("dry 1000"), 0);
        due("1001", wetAfter("dry 1001"), 0);
        due("wet - 1", wetAfter("dry wet-1"), 1);
        due("wet", wetAfter("dry wet"), 0);
        due("wet + 1", wetAfter("dry wet+1"), 0);
        due("2 to the 32nd", wetAfter("dry 65536*65536"), 0);
        due("that below 0", wetAfter("dry 1-65536*65536"), 1000);
        due("2 to the 62nd", wetAfter("dry 65536*65536*65536*16384"), 0);
        due("2 to the 63rd goes round", wetAfter("dry 65536*65536*65536*32768"), 1000);
        due("less 1", wetAfter("dry 65536*65536*65536*32768-1"), 0);
        due("2 to the 64th goes round", wetAfter("dry 65536*65536*65536*65536+3"), 997);
        due("0 without a test that holds", wetAfter("dry 9 if wet<1000"), 1000);
        CrackedMud x = Bench.floor(1, 9999, "dry 300");
        int[] wets = {700, 400, 100, 0, 0};
        for (int k = 0; k < wets.length; k++) {
            x.tick(0, 1);
            due("tick " + k, x.cell(9, 9, 0), wets[k]);
            due("dryness " + k, x.cell(9, 9, 6), 1000 - wets[k]);
        }
        x.press(9, 9, 0, 1);
        x.tick(0, 1);
        due("the last bit", x.cell(9, 9, 0), 0);
        of("of all by what there was ahead of the TICK");
        x = Bench.floor(1, 9999, "dry tick*10");
        x.tick(0, 1);
        due("tick 0", x.cell(0, 0, 0), 1000);
        x.tick(0, 2);
        due("ticks 1 and 2", x.cell(0, 0, 0), 970);
    }

    private static void seeps(int above, int below, int aboveThen, int belowThen) {
        CrackedMud x = Bench.floor(2, 9999, "let 1");
        x.press(7, 2, 0, above);
        x.press(7, 2, 1, below);
        x.tick(0, 1);
        due("above " + above + " " + below, x.cell(7, 2, 0), aboveThen);
        due("below " + above + " " + below, x.cell(7, 2, 1), belowThen);
    }

    private static void seeping() {
        of("(WET below less WET above) by 8, towards 0, goes up");
        seeps(1000, 1000, 1000, 1000);
        seeps(0, 0, 0, 0);
        seeps(993, 1000, 993, 1000);
        seeps(992, 1000, 993, 999);
        seeps(1000, 993, 1000, 993);
        seeps(1000, 992, 999, 993);
        seeps(0, 7, 0, 7);
        seeps(0, 8, 1, 7);
        seeps(7, 0, 7, 0);
        seeps(8, 0, 7, 1);
        seeps(0, 15, 1, 14);
        seeps(15, 0, 14, 1);
        seeps(0, 1000, 125, 875);
        seeps(1000, 0, 875, 125);
        of("of each two LAYERS one upon the other, from the top on");
        CrackedMud x = Bench.floor(4, 9999, "dry 1000");
        x.tick(0, 1);
        int[] wets = {125, 890, 986, 999};
        for (int w = 0; w < 4; w++) due("layer " + w, x.cell(5, 5, w), wets[w]);
        x = Bench.floor(1, 9999, "dry 400");
        x.tick(0, 1);
        due("one layer has none below", x.cell(5, 5, 0), 600);
    }

    /** A tear at edge 40 of a wet floor that holds 1000, its cells wet again; law 0 makes it, law 1 goes on. */
    private static CrackedMud notched(String law) {
        CrackedMud x = Bench.floor(1, 1000, "let 1");
        Bench.law(x, law);
        x.press(4, 4, 0, 0);
        x.press(5, 4, 0, 999);
        x.tick(0, 1);
        due("edge 40 alone", x.count(5) * 1000 + x.tear(0, 0), 1040);
        x.press(4, 4, 0, 1000);
        x.press(5, 4, 0, 1000);
        return x;
    }

    private static void goingOn() {
        of("whose PULL times 1000 is not below HOLDS times notch");
        CrackedMud x = notched("let 1;most 0;notch 0");
        x.tick(1, 1);
        due("notch 0: without any pull", x.count(5), 3);
        x = notched("let 1;most 0;notch 1");
        x.tick(1, 1);
        due("notch 1: not without", x.count(5), 1);
        x.press(4, 3, 0, 999);
        x.tick(1, 1);
        due("notch 1: by 1 of 1000", x.count(5), 2);
        for (String law : new String[] {"let 1;most 0;notch 1000", "let 1;most 0"}) {
            x = notched(law);
            x.press(4, 3, 0, 1);
            x.tick(1, 1);
            due("999 of 1000", x.count(5), 1);
            x.press(4, 3, 0, 0);
            x.tick(1, 1);
            due("1000 of 1000", x.count(5), 2);
            due("straight", x.edge(0, 31, 1), 0);
        }
        x = notched("let 1;most 0;notch 999");
        x.press(4, 3, 0, 2);
        x.tick(1, 1);
        due("998 by a notch of 999", x.count(5), 1);
        x.press(4, 3, 0, 1);
        x.tick(1, 1);
        due("999 by a notch of 999", x.count(5), 2);
        x = Bench.floor(1, 2000, "let 1");
        Bench.weaken(x, 40);
        x.press(4, 4, 0, 0);
        x.press(5, 4, 0, 0);
        x.tick(0, 1);
        x.press(4, 4, 0, 1000);
        x.press(5, 4, 0, 1000);
        x.press(4, 3, 0, 0);
        x.press(5, 3, 0, 1);
        x.tick(0, 1);
        due("1999 of 2000", x.count(5), 1);
        x.press(5, 3, 0, 0);
        x.tick(0, 1);
        due("2000 of 2000", x.count(5), 2);
        of("straight, to the left, to the right (as one comes along)");
        int[][] begins = {{89, 80, 178, 179, 2}, {90, 91, 0, 9, 3}, {0, 9, 91, 90, 3}, {179, 178, 89, 80, 2}};
        for (int[] b : begins) {
            for (int k = 1; k < 4; k++) {
                x = Bench.strong(1);
                Bench.rip(x, b[0]);
                for (int o = k; o < 4; o++) Bench.weaken(x, b[o]);
                x.tick(1, 1);
                for (int o = 1; o < 4; o++) due(b[0] + " to " + b[o] + " of " + k, x.edge(0, b[o], 0), o == k ? 1 : 0);
                due("straight", x.tear(0, 5), k == 1 ? 2 : 1);
                due("the other tip has ended", x.tear(0, 5 - b[4]), -2);
            }
        }
        of("that are not TORN");
        x = Bench.strong(1);
        Bench.rip(x, 40);
        Bench.weaken(x, 31, 124, 125);
        x.tick(0, 1);
        due("the others tear, too", x.count(5), 4);
        x.tick(0, 9);
        due("no edge is left to it", x.tear(0, 1), 2);
    }

    private static void newOnes() {
        of("whose PULL is most above what it HOLDS (above it at all)");
        CrackedMud x = Bench.floor(1, 1000, "let 1;most 9");
        x.press(4, 4, 0, 0);
        x.tick(0, 1);
        due("1000 of 1000", x.count(5), 0);
        x.press(5, 4, 0, 999);
        x.tick(0, 1);
        due("1001 of 1000", x.count(5), 1);
        due("there", x.edge(0, 40, 0), 1);
        of("of several the least");
        x = Bench.shattered(1);
        due("of all alike", x.tear(0, 0), 0);
        x = Bench.strong(1);
        Bench.weaken(x, 179, 178);
        x.tick(0, 1);
        due("178", x.tear(0, 0), 178);
        due("179", x.tear(1, 0), 179);
        of("NEW ones, up to most: most NUMBER (0 to 9)");
        for (int most = 0; most < 10; most++) {
            x = Bench.floor(1, 1, "dry 1000;let 1;most " + most);
            x.tick(0, 1);
            due("most " + most, x.count(12), most);
            due("torn by most " + most, x.count(5), most);
        }
        x = Bench.floor(1, 1, "dry 1000;let 1");
        x.tick(0, 1);
        due("most 1 without", x.count(12), 1);
        x = Bench.strong(1);
        Bench.weaken(x, 20, 40, 60);
        x.tick(0, 1);
        due("fewer than most", x.count(12), 3);
    }

    /** Edges one beside the other, of which the first to tear takes the reach of the second. */
    private static void asked() {
        of("PULLS of (3) and (4) are as they are when it is asked");
        int[][] pairs = {{1, 0}, {7, 8}, {37, 36}, {82, 81}, {100, 90}, {160, 170}, {109, 99}, {94, 104}, {134, 144}, {40, 41}};
        for (int[] pair : pairs) {
            CrackedMud x = Bench.floor(1, 9999, "let 3;most 9");
            for (int c = 0; c < 100; c++) x.press(c % 10, c / 10, 0, 0);
            x.scratch(pair[1], 9999 - (x.edge(0, pair[1], 7) - 1));
            due(pair[1] + " is pulled by 1 more than it holds", x.ahead(0, 1, 0), 1);
            Bench.weaken(x, pair[0]);
            x.tick(0, 1);
            due(pair[0] + " tears", x.edge(0, pair[0], 0), 1);
            due(pair[1] + " does not then", x.edge(0, pair[1], 0), 0);
        }
        CrackedMud x = Bench.floor(1, 9999, "let 3;most 9");
        for (int c = 0; c < 100; c++) x.press(c % 10, c / 10, 0, 0);
        x.scratch(41, 9999 - 1999);
        due("2000 of 1999", x.ahead(0, 1, 0), 1);
        Bench.weaken(x, 40);
        due("1333 of 1999", x.ahead(0, 1, 0), 1);
        Bench.weaken(x, 39);
        x.tick(0, 1);
        due("39 and 40, not 41", x.edge(0, 39, 0) * 100 + x.edge(0, 40, 0) * 10 + x.edge(0, 41, 0), 110);
        x = Bench.floor(1, 9999, "let 3;most 9");
        for (int c = 0; c < 100; c++) x.press(c % 10, c / 10, 0, 0);
        Bench.rip(x, 134);
        x.scratch(154, 9999 - 1666);
        x.scratch(104, 9999 - 1665);
        due("by the reach that is left: 1666 of 1666, 1666 of 1665", x.ahead(0, 1, 1), 1);
        due("that is 104", x.half(0, 1, 104), 1);
    }

    private static void full() {
        of("a new TEAR (200 in all, no more)");
        CrackedMud x = Bench.floor(1, 1, "dry 1000;let 1;most 9;heal 0");
        for (int k = 0; k < 22; k++) {
            x.tick(0, 1);
            x.rain(0, 1);
        }
        due("nine a tick", x.count(12), 198);
        x.tick(0, 1);
        due("two more", x.count(12), 200);
        due("torn", x.count(5), 2);
        due("the last one", x.tear(199, 0), 1);
        due("its edge's tear", x.edge(0, 1, 1), 199);
        due("there is no 201st", x.tear(200, 0), -4);
        x.tick(0, 1);
        due("none begins", x.count(12), 200);
        due("but both go on", x.count(5), 4);
        due("with two edges", x.tear(199, 1), 2);
        of("OPEN: pairs of TEARS, with 200 of these");
        due("all pairs", x.order(1), 200 * 199 / 2);
        due("no rings", x.order(0), 0);
        due("rank", x.rank(199), 0);
        due("rank 200", x.rank(200), -1);
        due("older", x.older(199, 0), 0);
        due("older than 200", x.older(0, 200), -1);
        due("200 older", x.older(200, 0), -1);
        of("200 in all, no more: healed ones count");
        due("heal", x.rain(0, 1), 4);
        due("tears with an edge", x.count(6), 0);
        x.tick(0, 60);
        due("nothing tears any more", x.count(5), 0);
        due("200", x.count(12), 200);
        due("scars", x.count(17), 4 + 7);
        due("ahead", x.ahead(0, 60, 0), 0);
        due("begun anew", x.begin(1, 0, 1, 1), true);
        x.tick(0, 1);
        due("nine", x.count(12), 9);
    }

    private static void depths() {
        of("whose DEPTH d (1 at first) is less than there are LAYERS");
        for (int layers = 1; layers <= 4; layers++) {
            CrackedMud x = Bench.strong(layers);
            Bench.law(x, "let 1;deepen 1000");
            Bench.weaken(x, 40);
            for (int k = 1; k < 7; k++) {
                x.tick(2, 1);
                due("depth of " + layers + " behind " + k, x.edge(0, 40, 2), Math.min(layers, k + 1));
            }
            due("finger", x.finger(0), layers);
        }
        of("WET in LAYER d, together, not above 2 * deepen");
        // an eighth of 571 and of 572 are 71, which goes up first
        due("500 and 500", depthBy("let 1;deepen 500", 571, 571), 2);
        due("500 and 501", depthBy("let 1;deepen 500", 571, 572), 1);
        due("499 and 501", depthBy("let 1;deepen 500", 570, 572), 2);
        due("0 and 0 without deepen", depthBy("let 1", 0, 0), 2);
        due("0 and 1 without deepen", depthBy("let 1", 0, 1), 1);
        due("0 and 0 by deepen 0", depthBy("let 1;deepen 0", 0, 0), 2);
        due("1 and 0 by deepen 0", depthBy("let 1;deepen 0", 1, 0), 1);
        due("1 and 1 by deepen 1", depthBy("let 1;deepen 1", 1, 1), 2);
        due("1 and 2 by deepen 1", depthBy("let 1;deepen 1", 1, 2), 1);
        due("875 and 875 by deepen 1000", depthBy("let 1;deepen 1000", 1000, 1000), 2);
    }

    private static int depthBy(String law, int one, int other) {
        CrackedMud x = Bench.strong(2);
        Bench.law(x, law);
        Bench.weaken(x, 40);
        x.press(4, 4, 1, one);
        x.press(5, 4, 1, other);
        x.tick(2, 1);
        return x.edge(0, 40, 2);
    }

    private static void ticks() {
        of("So many TICKS (1 to 60) go by");
        CrackedMud x = Bench.floor(1, 9999, "dry 1");
        due("at first", x.count(10), 0);
        due("1", x.tick(0, 1), 1);
        due("60", x.tick(0, 60), 61);
        String before = Bench.picture(x);
        for (int n : new int[] {0, -1, 61, LOWEST, HIGHEST}) due("n " + n, x.tick(0, n), -1);
        for (int law : new int[] {-1, 1, 8, LOWEST, HIGHEST}) due("law " + law, x.tick(law, 1), -1);
        BENCH.unchanged("a refused tick", x, before);
        due("so many", x.cell(0, 0, 0), 1000 - 61);
        of("if they would be above 99999");
        // 512 calls can't go so far; the words name the bound nevertheless
        x = Bench.floor(1, 9999, "let 1;dry 1000 if tick>=99998");
        Bench.law(x, "let 1;dry 1000 if tick>=99999+1");
        Bench.law(x, "let 1;most 9;dry 1000;tear 0-9999");
        Bench.want(x, "want tick = 99999");
        for (int k = 0; k < 1666; k++) x.tick(1, 60);
        due("99960", x.count(10), 99960);
        due("40 are too many", x.tick(1, 40), -1);
        due("60 are", x.tick(1, 60), -1);
        due("stays", x.count(10), 99960);
        due("38", x.tick(1, 38), 99998);
        due("2 are too many", x.tick(1, 2), -1);
        due("not yet", x.met(0), 0);
        due("1", x.tick(0, 1), 99999);
        due("by the ticks ahead of it", x.cell(0, 0, 0), 0);
        due("full", x.tick(1, 1), -1);
        due("met", x.met(0), 1);
        due("what is ahead goes on", x.ahead(2, 60, 0), 180);
        x.rain(0, 1000);
        due("TICKS: 99999 at most, ahead", x.ahead(1, 60, 0), 0);
        due("lead", x.lead(1, 0, 20), 0);
        due("image", x.image(0), 99999);
        due("back", x.back(0), 99999);
    }

    private static void rains() {
        of("RAIN of n (1 to 1000)");
        CrackedMud x = Bench.strong(2);
        Bench.law(x, "heal 500");
        Bench.rip(x, 40);
        String before = Bench.picture(x);
        for (int n : new int[] {0, -1, 1001, LOWEST, HIGHEST}) due("n " + n, x.rain(0, n), -1);
        for (int law : new int[] {-1, 3, 8, LOWEST, HIGHEST}) due("law " + law, x.rain(law, 5), -1);
        BENCH.unchanged("a refused rain", x, before);
        of("1000 at most");
        int[][] wets = {{0, 0}, {1, 999}, {2, 1000}};
        for (int[] w : wets) x.press(w[0], 0, 0, w[1]);
        x.press(0, 0, 1, 10);
        x.rain(0, 1);
        for (int[] w : wets) due("wet " + w[1], x.cell(w[0], 0, 0), Math.min(1000, w[1] + 1));
        x.rain(0, 1000);
        for (int[] w : wets) due("wet " + w[1], x.cell(w[0], 0, 0), 1000);
        due("layer 0 alone", x.cell(0, 0, 1), 10);
        of("both of whose CELLS have WET in LAYER 0 of heal or more");
        healsAt("heal 500", 499, 500);
        healsAt("heal 1000", 999, 1000);
        healsAt("let 1", 999, 1000);
        healsAt("heal 2", 1, 2);
        due("heal 0", healed("heal 0", 1, 1), 1);
        due("heal 1", healed("heal 1", 1, 1), 1);
        of("if it has none any more, its TIPS that have not ENDED have ENDED in itself");
        x = Bench.strong(1);
        Bench.law(x, "heal 0");
        Bench.rip(x, 0, 9);
        due("at the border", x.tear(0, 2), -2);
        due("goes on", x.tear(0, 3), -3);
        due("both heal", x.rain(2, 1), 2);
        due("no edges", x.tear(0, 1), 0);
        due("straight, 0 at least", x.tear(0, 5), 0);
        due("at the border still", x.tear(0, 2), -2);
        due("in itself", x.tear(0, 3), 0);
        Bench.weaken(x, 18);
        x.tick(1, 9);
        due("goes on no more", x.tear(0, 1), 0);
        due("not twice", x.rain(2, 1000), 0);
    }

    /** How many heal, of one, whose cells are so wet behind rain of 1. */
    private static int healed(String law, int one, int other) {
        CrackedMud x = Bench.strong(1);
        Bench.law(x, law);
        Bench.rip(x, 40);
        x.press(4, 4, 0, one - 1);
        x.press(5, 4, 0, other - 1);
        return x.rain(2, 1);
    }

    private static void healsAt(String law, int tooDry, int enough) {
        due(law + ": both below", healed(law, tooDry, tooDry), 0);
        due(law + ": the first below", healed(law, tooDry, enough), 0);
        due(law + ": the second below", healed(law, enough, tooDry), 0);
        due(law + ": both there", healed(law, enough, enough), 1);
    }

    private static void tears() {
        of("Of a TEAR what 0 to 5; -4 without these");
        CrackedMud x = Bench.strong(1);
        for (int t : new int[] {-1, 0, 199, 200, LOWEST, HIGHEST}) due("no tears, " + t, x.tear(t, 0), -4);
        Bench.rip(x, 40);
        int[] dues = {40, 1, -3, -3, 0, 1};
        for (int w = 0; w < 6; w++) due("what " + w, x.tear(0, w), dues[w]);
        for (int w : new int[] {-1, 6, LOWEST, HIGHEST}) due("what " + w, x.tear(0, w), -4);
        for (int t : new int[] {-1, 1, 199, 200, LOWEST, HIGHEST}) due("tear " + t, x.tear(t, 1), -4);
        of("4: in which TICK it began (from 0 on)");
        x.tick(1, 59);
        Bench.rip(x, 20);
        due("behind 60 ticks", x.tear(1, 4), 60);
        of("STRAIGHT: less how often a TIP of it ever went aside, 0 at least");
        x = Bench.strong(1);
        Bench.law(x, "heal 100");
        Bench.rip(x, 40, 125, 41);
        due("three less two", x.tear(0, 5), 1);
        x.press(4, 4, 0, 99);
        x.press(5, 4, 0, 99);
        due("40 heals", x.rain(2, 1), 1);
        due("two less two", x.tear(0, 5), 0);
        x.press(4, 3, 0, 99);
        due("nothing heals", x.rain(2, 1), 0);
        x.press(5, 3, 0, 100);
        x.press(6, 4, 0, 100);
        due("two heal", x.rain(2, 1), 2);
        due("none less two", x.tear(0, 5), 0);
        of("a TIP of it, the second one, too; of each TEAR its own");
        x = Bench.strong(1);
        Bench.weaken(x, 40, 62);
        x.tick(0, 1);
        due("two tears", x.count(12), 2);
        Bench.weaken(x, 135, 53);
        x.tick(1, 1);
        due("aside at the second tip of 0", x.tear(0, 1) * 10 + x.tear(0, 5), 21);
        due("straight on at the first of 1", x.tear(1, 1) * 10 + x.tear(1, 5), 22);
        Bench.weaken(x, 158);
        x.tick(1, 1);
        due("aside at the second tip of 1", x.tear(1, 1) * 10 + x.tear(1, 5), 32);
        due("0 stays", x.tear(0, 1) * 10 + x.tear(0, 5), 21);
        Bench.weaken(x, 138);
        x.tick(1, 1);
        due("aside at the first tip of 1", x.tear(1, 1) * 10 + x.tear(1, 5), 42);
        due("0 stays", x.tear(0, 1) * 10 + x.tear(0, 5), 21);
    }

    public static void main(String[] args) {
        cells();
        layers();
        pressed();
        edges();
        border();
        begun();
        anew();
        holds();
        scars();
        reach();
        drying();
        seeping();
        goingOn();
        newOnes();
        asked();
        full();
        depths();
        ticks();
        rains();
        tears();
        BENCH.close();
    }
}
