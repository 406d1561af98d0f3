/** The boundary cases of what comes, of leads and of images: part IV, and promises 24 to 35. */
public final class AheadBoundsTest {
    private static final Bench BENCH = new Bench();
    private static final int LOWEST = Bench.LOWEST;
    private static final int HIGHEST = Bench.HIGHEST;

    private static void of(String words) { BENCH.of(words); }
    private static void due(String call, long got, long want) { BENCH.due(call, got, want); }
    private static void due(String call, boolean got, boolean want) { BENCH.due(call, got, want); }

    private static void ahead() {
        of("AHEAD of n TICKS (0 to 60)");
        CrackedMud x = Bench.floor(1, 1, "dry 1000 if tick>=59;let 1");
        Bench.law(x, "dry 1000;let 1;most 9");
        String before = Bench.picture(x);
        due("0", x.ahead(0, 0, 0), 0);
        due("59", x.ahead(0, 59, 0), 0);
        due("60: in the last one", x.ahead(0, 60, 0), 1);
        due("60: that are not now", x.ahead(0, 60, 1), 1);
        due("all there are", x.ahead(1, 60, 0), 180);
        for (int n : new int[] {-1, 61, LOWEST, HIGHEST}) due("n " + n, x.ahead(0, n, 0), -1);
        for (int w : new int[] {-1, 2, LOWEST, HIGHEST}) due("what " + w, x.ahead(0, 1, w), -1);
        for (int law : new int[] {-1, 2, 8, LOWEST, HIGHEST}) due("law " + law, x.ahead(law, 1, 0), -1);
        of("the first TICK behind which it is TORN (0: it is now; none within n)");
        due("59", x.half(0, 59, 0), -2);
        due("60", x.half(0, 60, 0), 60);
        due("never", x.half(0, 60, 1), -2);
        due("edge 179", x.half(1, 60, 179) > 0 ? 1 : 0, 1);
        for (int n : new int[] {-1, 61, LOWEST, HIGHEST}) due("n " + n, x.half(0, n, 0), -1);
        for (int e : new int[] {-1, 180, LOWEST, HIGHEST}) due("edge " + e, x.half(0, 1, e), -1);
        for (int law : new int[] {-1, 2, 8, LOWEST, HIGHEST}) due("law " + law, x.half(law, 1, 0), -1);
        of("the FLOOR stays as it is");
        BENCH.unchanged("ahead and half", x, before);
        x.tick(0, 60);
        due("torn now", x.ahead(0, 0, 0), 1);
        due("not any that is not now", x.ahead(0, 0, 1), 0);
        due("it is now, within 0", x.half(0, 0, 0), 0);
        due("it is now, within 60", x.half(0, 60, 0), 0);
        due("not within 0", x.half(0, 0, 9), -2);
        due("within 1", x.half(0, 1, 9), 1);
        due("the second", x.half(0, 2, 18), 2);
        due("not within 1", x.half(0, 1, 18), -2);
        x = Bench.shattered(1);
        due("nothing is left", x.ahead(0, 60, 0), 180);
        due("nothing is left", x.ahead(0, 60, 1), 0);
    }

    private static void goesBy() {
        of("MISS of a LAW from an IMAGE on (0 to 60 TICKS less than now)");
        CrackedMud x = Bench.floor(1, 1);
        for (int i = -1; i < 5; i++) {
            due("no image " + i, x.miss(0, i), -1);
            due("no image " + i, x.likeliest(i), -1);
        }
        x.image(0);
        due("no law", x.miss(0, 0), -1);
        due("there are no LAWS", x.likeliest(0), -2);
        Bench.law(x, "dry 1000 if tick>=59;let 1");
        Bench.law(x, "let 1");
        due("0 ticks", x.miss(0, 0), 0);
        x.tick(1, 59);
        due("59 ticks", x.miss(0, 0), 0);
        x.tick(1, 1);
        due("60 ticks", x.miss(0, 0), 1);
        due("by the one that it went by", x.miss(1, 0), 0);
        due("likeliest", x.likeliest(0), 1);
        x.image(3);
        due("0 ticks: all are alike, the least", x.likeliest(3), 0);
        x.tick(1, 1);
        due("61 ticks", x.miss(0, 0), -1);
        due("61 ticks", x.likeliest(0), -1);
        due("1 tick", x.miss(1, 3), 0);
        for (int law : new int[] {-1, 2, 8, LOWEST, HIGHEST}) due("law " + law, x.miss(law, 3), -1);
        for (int i : new int[] {-1, 1, 2, 4, LOWEST, HIGHEST}) {
            due("image " + i, x.miss(1, i), -1);
            due("image " + i, x.likeliest(i), -1);
        }
        x.image(1);
        x.back(3);
        due("one tick more than now", x.miss(1, 1), -1);
        due("one tick more than now", x.likeliest(1), -1);
        of("NONE if the IMAGE was made of another FLOOR (begun at another time)");
        x.back(0);
        x.begin(1, 0, 1, 1);
        due("alike, but another one", x.miss(1, 0), -1);
        due("alike, but another one", x.likeliest(0), -1);
        x.image(2);
        due("its own", x.miss(1, 2), 0);
        due("a refused begin", x.begin(0, 0, 1, 1), false);
        due("is no other one", x.miss(1, 2), 0);
        x.back(0);
        due("the first one again", x.miss(1, 0), 0);
        due("the second one's", x.miss(1, 2), -1);
        of("EDGES TORN by it then and not now, or now and not by it");
        x = Bench.floor(1, 1, "dry 1000;let 1;most 9");
        Bench.law(x, "let 1;heal 0");
        x.image(0);
        x.tick(0, 60);
        due("none", x.miss(0, 0), 0);
        due("all now and not by it", x.miss(1, 0), 180);
        due("the least", x.likeliest(0), 0);
        x.rain(1, 1);
        due("all by it and not now", x.miss(0, 0), 180);
        due("none", x.miss(1, 0), 0);
        due("the least", x.likeliest(0), 1);
    }

    private static void candidates() {
        of("CANDIDATES 0 to 5 are EDGES with a SCRATCH each (0 to 9999)");
        CrackedMud x = new CrackedMud();
        due("no floor", x.candidate(0, 0, 0), false);
        x = Bench.strong(1);
        Bench.want(x, "want torn = 1");
        due("none told", x.lead(0, 0, 1), -2);
        due("the first", x.candidate(0, 0, 0), true);
        due("the last", x.candidate(5, 179, 9999), true);
        due("lead", x.lead(0, 0, 1), 32);
        String before = Bench.picture(x);
        for (int k : new int[] {-1, 6, LOWEST, HIGHEST}) due("k " + k, x.candidate(k, 0, 9999), false);
        for (int e : new int[] {-1, 180, LOWEST, HIGHEST}) due("edge " + e, x.candidate(0, e, 9999), false);
        for (int s : new int[] {-1, 10000, LOWEST, HIGHEST}) due("scratch " + s, x.candidate(5, 0, s), false);
        BENCH.unchanged("a refused candidate", x, before);
        of("in place of what it was");
        due("another one", x.candidate(5, 50, 0), true);
        due("no lead", x.lead(0, 0, 1), -2);
        due("no scratch is made", x.edge(0, 50, 4) + x.edge(0, 179, 4), 0);
    }

    private static void lead() {
        of("a WANT is MET behind n TICKS (0 to 20)");
        CrackedMud x = Bench.floor(1, 1, "dry 1000 if tick>=19;let 1");
        Bench.want(x, "want torn = 1");
        Bench.want(x, "want torn = 0");
        due("19", x.lead(0, 0, 19), -2);
        due("20", x.lead(0, 0, 20), 0);
        due("0", x.lead(0, 1, 0), 0);
        for (int n : new int[] {-1, 21, LOWEST, HIGHEST}) due("n " + n, x.lead(0, 1, n), -1);
        for (int law : new int[] {-1, 1, 8, LOWEST, HIGHEST}) due("law " + law, x.lead(law, 1, 0), -1);
        for (int want : new int[] {-1, 2, 8, LOWEST, HIGHEST}) due("want " + want, x.lead(0, want, 0), -1);
        of("the least set (fewest, then least as a number)");
        x = Bench.strong(1);
        int[] edges = {0, 20, 40, 60, 80, 100};
        for (int n = 0; n < 7; n++) Bench.want(x, "want torn = " + n);
        for (int k = 0; k < 6; k++) x.candidate(k, edges[k], 9999);
        int[] sets = {0, 1, 3, 7, 15, 31, 63};
        for (int n = 0; n < 7; n++) due(n + " of them", x.lead(0, n, 1), sets[n]);
        x.candidate(0, 0, 0);
        int[] others = {0, 2, 6, 14, 30, 62, -2};
        for (int n = 0; n < 7; n++) due(n + " but not the first", x.lead(0, n, 1), others[n]);
        Bench.want(x, "want torn = 2 and rooms = 2");
        x.candidate(0, 90, 9999);
        x.candidate(5, 0, 9999);
        due("fewest: 0 and 5, not three of less", x.lead(0, 7, 1), 33);
        of("the least set of these that are told");
        x = Bench.strong(1);
        Bench.want(x, "want torn = 2");
        x.candidate(2, 20, 9999);
        x.candidate(4, 40, 9999);
        due("2 and 4", x.lead(0, 0, 1), 20);
        of("their EDGES' SCRATCH being that");
        x = Bench.strong(1);
        Bench.want(x, "want torn = 0");
        Bench.weaken(x, 40);
        due("it is weak", x.lead(0, 0, 1), -2);
        x.candidate(3, 40, 0);
        due("0 in place of 9999", x.lead(0, 0, 1), 8);
        x.candidate(3, 40, 7998);
        due("holds 2001", x.lead(0, 0, 1), 8);
        x.candidate(3, 40, 7999);
        due("holds 2000", x.lead(0, 0, 1), 8);
        x.candidate(3, 40, 8000);
        due("holds 1999", x.lead(0, 0, 1), -2);
        of("of two of one EDGE that with the greater number");
        x = Bench.strong(1);
        Bench.want(x, "want torn = 1 and ends = 2;not tick = 0");
        x.candidate(0, 40, 0);
        x.candidate(5, 40, 9999);
        due("5 alone", x.lead(0, 0, 1), 32);
        x = Bench.strong(1);
        Bench.want(x, "want torn = 2");
        x.candidate(0, 40, 9999);
        x.candidate(1, 40, 0);
        x.candidate(2, 20, 9999);
        due("0 and 2", x.lead(0, 0, 1), 5);
        Bench.want(x, "want torn = 1");
        Bench.weaken(x, 20);
        x.candidate(2, 20, 0);
        due("none is needed", x.lead(0, 1, 1), 0);
        due("0 alone", x.lead(0, 0, 1), 1);
    }

    private static int slow(int grain, String law, int n) { return Bench.floor(1, grain, law).slow(0, n); }

    private static void slow() {
        of("SLOW: the greatest part in hundredths (0 to 100)");
        due("100", slow(2000, "dry 1000;let 1", 1), 100);
        due("99", slow(1999, "dry 1000;let 1", 1), 99);
        due("99", slow(1980, "dry 1000;let 1", 1), 99);
        due("98", slow(1979, "dry 1000;let 1", 1), 98);
        due("1", slow(2, "dry 100;let 1", 1), 1);
        due("0", slow(1, "dry 100;let 1", 1), 0);
        CrackedMud x = Bench.floor(1, 1, "dry 100;let 1");
        x.press(0, 0, 0, 999);
        due("pulled by 1 of 1", x.slow(0, 1), 0);
        x.press(0, 0, 0, 998);
        due("-2: not with 0 either", x.slow(0, 1), -2);
        of("(held, times it by 100, downwards)");
        due("199 times 1 is 1", slow(2, "dry 199;let 1", 1), 1);
        due("99 times 2 is 1", slow(2, "dry 99;let 1", 1), 2);
        due("5000 is held to 1000", slow(500, "dry 5000;let 1", 1), 25);
        due("below 0 is held to 0", slow(1, "dry 0-500;let 1", 1), 100);
        of("behind n TICKS (0 to 20)");
        due("0", slow(1, "dry 1000;let 1", 0), 100);
        due("19", slow(1, "dry 1000 if tick>=19;let 1", 19), 100);
        due("20", slow(1, "dry 1000 if tick>=19;let 1", 20), 0);
        x = Bench.floor(1, 1, "dry 1000;let 1");
        for (int n : new int[] {-1, 21, LOWEST, HIGHEST}) due("n " + n, x.slow(0, n), -1);
        for (int law : new int[] {-1, 1, 8, LOWEST, HIGHEST}) due("law " + law, x.slow(law, 0), -1);
        of("no EDGE is TORN that is not now");
        x = Bench.shattered(1);
        due("all are", x.slow(0, 20), 100);
        x = Bench.strong(1);
        Bench.rip(x, 40);
        due("one is", x.slow(0, 20), 100);
        Bench.weaken(x, 31);
        due("one more, whatever dries", x.slow(0, 1), -2);
        due("by 0 ticks none", x.slow(0, 0), 100);
    }

    private static int whole(int grain, String law, int n) { return Bench.floor(3, grain, law).whole(0, n); }

    private static void whole() {
        of("WHOLE: the fewest LAYERS (1 to 4)");
        // dry 50 by 20 ticks: dry by 1000 of one layer, 575 of two, 505 of three, 496 of four
        int[][] dues = {{2000, 1}, {1999, 2}, {1150, 2}, {1149, 3}, {1010, 3}, {1009, 4}, {992, 4}, {991, -2}};
        for (int[] d : dues) due("grain " + d[0], whole(d[0], "dry 50;let 1", 20), d[1]);
        of("behind n TICKS (0 to 20)");
        due("0", whole(1, "dry 1000;let 1", 0), 1);
        due("19", whole(1, "dry 1000 if tick>=19;let 1", 19), 1);
        due("20", whole(1, "dry 1000 if tick>=19;let 1", 20), -2);
        CrackedMud x = Bench.floor(1, 1, "dry 1000;let 1");
        for (int n : new int[] {-1, 21, LOWEST, HIGHEST}) due("n " + n, x.whole(0, n), -1);
        for (int law : new int[] {-1, 1, 8, LOWEST, HIGHEST}) due("law " + law, x.whole(law, 0), -1);
        of("of a FLOOR begun anew with its seed and numbers (shade, salt 0)");
        x = Bench.floor(1, 9999, "let 1;tear 0-9999 if shade+salt>0;dry tick");
        Bench.weaken(x, 40);
        for (int c = 0; c < 100; c++) {
            x.press(c % 10, c / 10, 0, 0);
            x.press(c % 10, c / 10, 4, 9);
            x.press(c % 10, c / 10, 5, 9);
        }
        due("wet, strong, not scratched", x.whole(0, 20), 1);
        x.tick(0, 1);
        due("torn now", x.count(5), 1);
        due("but not anew", x.whole(0, 0), 1);
        due("nor behind 20", x.whole(0, 20), 1);
        x = new CrackedMud();
        x.begin(4, 0, 1, 9999);
        // the grain of edge 0 is 1, by seed 0
        Bench.law(x, "dry 1;let 1;tear 9999 if x+y+way>0");
        Bench.law(x, "dry 1;let 1;tear 1");
        due("2 of 1", x.whole(0, 1), -2);
        due("2 of 2", x.whole(1, 1), 1);
    }

    private static void much() {
        of("MUCH: the least RAIN (1 to 1000); of m (1 to 180); -2: with none");
        CrackedMud x = Bench.shattered(1);
        Bench.law(x, "heal 0");
        Bench.law(x, "heal 999");
        String before = Bench.picture(x);
        due("1 of 180", x.much(0, 1), 1000);
        due("180 of 180", x.much(0, 180), 1000);
        due("by heal 999", x.much(2, 180), 999);
        due("by heal 0", x.much(1, 180), 1);
        for (int m : new int[] {0, -1, 181, LOWEST, HIGHEST}) due("m " + m, x.much(0, m), -1);
        for (int law : new int[] {-1, 3, 8, LOWEST, HIGHEST}) due("law " + law, x.much(law, 1), -1);
        BENCH.unchanged("much", x, before);
        x.press(4, 4, 0, 999);
        x.press(5, 4, 0, 999);
        due("1 is enough for one", x.much(0, 1), 1);
        due("not for two", x.much(0, 2), 1000);
        x.press(4, 4, 0, 1000);
        x.press(5, 4, 0, 1000);
        due("1 at least", x.much(0, 1), 1);
        x.press(4, 4, 0, 998);
        due("2", x.much(0, 1), 2);
        x.press(4, 4, 0, 0);
        due("the drier one", x.much(0, 1), 1000);
        x = Bench.strong(1);
        due("nothing is torn", x.much(0, 1), -2);
        Bench.rip(x, 40);
        for (int wet = 0; wet < 1000; wet++) {
            x.press(4, 4, 0, wet);
            x.press(5, 4, 0, wet);
            due("of wet " + wet, x.much(0, 1), 1000 - wet);
        }
        x.press(4, 4, 0, 0);
        due("one is", x.much(0, 1), 1000);
        due("not two", x.much(0, 2), -2);
        due("not 180", x.much(0, 180), -2);
    }

    private static void finger() {
        of("FINGER: DEPTHS together; PACE (0 without TICKS)");
        CrackedMud x = new CrackedMud();
        due("no floor", x.finger(0), -1);
        due("no floor", x.finger(1), -1);
        x = Bench.floor(4, 1, "dry 1000;let 1;most 9;deepen 1000");
        due("none", x.finger(0), 0);
        due("without ticks", x.finger(1), 0);
        for (int w : new int[] {-1, 2, LOWEST, HIGHEST}) due("what " + w, x.finger(w), -1);
        x.tick(0, 60);
        x.tick(0, 5);
        due("all of four layers", x.finger(0), 720);
        due("540 by 65 ticks, downwards", x.finger(1), 540000 / 65);
        of("in thousandths, downwards");
        x = Bench.strong(2);
        Bench.law(x, "let 1;deepen 1000");
        Bench.weaken(x, 40);
        int[] paces = {1000, 500, 333, 250, 200, 166, 142};
        for (int pace : paces) {
            x.tick(2, 1);
            due("pace", x.finger(1), pace);
        }
        due("finger", x.finger(0), 2);
        x = Bench.floor(1, 9999, "dry 1");
        x.tick(0, 3);
        due("nothing torn", x.finger(0) + x.finger(1), 0);
    }

    private static void images() {
        of("IMAGES 0 to 3: TICKS; NONE without it, or without a FLOOR");
        CrackedMud x = new CrackedMud();
        for (int k = -1; k < 5; k++) {
            due("no floor, image " + k, x.image(k), -1);
            due("no floor, back " + k, x.back(k), -1);
        }
        x = Bench.strong(1);
        for (int k = 0; k < 4; k++) {
            due("never made " + k, x.back(k), -1);
            due("image " + k, x.image(k), k);
            x.tick(1, 1);
        }
        String before = Bench.picture(x);
        for (int k : new int[] {-1, 4, LOWEST, HIGHEST}) {
            due("image " + k, x.image(k), -1);
            due("back " + k, x.back(k), -1);
        }
        BENCH.unchanged("a refused image or back", x, before);
        for (int k = 3; k >= 0; k--) due("back " + k, x.back(k), k);
        due("and ahead again", x.back(3), 3);
        due("in place of what it was", x.image(0), 3);
        x.tick(1, 1);
        due("back", x.back(0), 3);
        due("twice", x.back(0), 3);
        of("NONE, and nothing happens, if it was never made");
        x = Bench.strong(1);
        Bench.rip(x, 40);
        before = Bench.picture(x);
        for (int k = 0; k < 4; k++) due("back " + k, x.back(k), -1);
        BENCH.unchanged("a refused back", x, before);
        due("without a floor there is none to begin with", new CrackedMud().back(0), -1);
    }

    private static void backWithAll() {
        of("the FLOOR with all that is told of it, ROUNDS, CANDIDATES, as they are");
        CrackedMud x = Bench.strong(1);
        Bench.want(x, "want torn = 1");
        due("with none of these", x.image(0), 0);
        for (int k = 1; k <= 60; k++) x.round();
        for (int k = 0; k < 6; k++) x.candidate(k, 20 * k, 9999);
        due("with all of these", x.image(1), 0);
        String full = Bench.picture(x);
        due("back to none", x.back(0), 0);
        due("no rounds", x.count(15), 0);
        due("no round 0", x.rounds(0, 0), -1);
        due("no candidates", x.lead(0, 0, 1), -2);
        due("the first", x.round(), 1);
        due("back to all", x.back(1), 0);
        due("60 rounds", x.count(15), 60);
        due("full", x.round(), -1);
        due("candidates", x.lead(0, 0, 1), 1);
        BENCH.unchanged("back to all", x, full);
        of("LAWS, WANTS stay");
        Bench.law(x, "dry 1");
        Bench.want(x, "want torn = 0");
        x.feed(1, 2, 3, 4, 5);
        x.back(0);
        due("laws", x.count(13), 3);
        due("wants", x.count(14), 2);
        due("the tape, too", x.count(16), 20);
        of("gone back to, they are as they were: another FLOOR's");
        x.begin(4, 5, 1, 9);
        due("four layers", x.cell(0, 0, 3), 1000);
        x.image(2);
        x.back(0);
        due("one layer", x.cell(0, 0, 3), -1);
        due("one layer", x.cell(0, 0, 1), -1);
        due("its grain", x.edge(0, 0, 3), 9999);
        x.back(2);
        due("four layers", x.press(0, 0, 3, 5), 1000);
        due("an image stays as it is", x.back(2), 0);
        due("an image stays as it is", x.cell(0, 0, 3), 1000);
        of("as they are: each TEAR, each ROUND, and of the FLOOR its seed and numbers");
        x = Bench.strong(2);
        Bench.law(x, "let 1;most 9;deepen 1000;heal 0;scar 7");
        x.tick(1, 5);
        Bench.rip(x, 40, 125, 41);
        x.round();
        x.press(7, 7, 4, 3);
        x.press(7, 7, 5, 4);
        x.image(0);
        full = Bench.picture(x);
        x.rain(2, 1);
        x.begin(2, 3, 9999, 9999);
        for (int c = 0; c < 100; c++) x.press(c % 10, c / 10, 0, 0);
        Bench.rip(x, 0, 9, 18, 27, 179, 60);
        x.tick(2, 3);
        x.round();
        due("other tears", x.tear(0, 0), 0);
        due("back", x.back(0), 8);
        BENCH.unchanged("back to other tears", x, full);
        due("began at", x.tear(0, 0), 40);
        due("in tick", x.tear(0, 4), 5);
        due("straight", x.tear(0, 5), 1);
        due("the round's torn ones", x.rounds(0, 5), 3);
        x = new CrackedMud();
        Bench.law(x, "dry 1;let 1;tear 9999 if x+y+way>0");
        int[][] floors = {{0, 1, 9999}, {1, 1, 9999}, {0, 2, 9999}, {1, 1, 2}};
        // the grain of edge 0 is 1, 16838 - 9999 + 1, 2 and 1; it is pulled by 2
        int[] wholes = {-2, 1, 1, -2};
        for (int k = 0; k < 4; k++) {
            x.begin(1, floors[k][0], floors[k][1], floors[k][2]);
            x.image(k);
        }
        for (int from = 0; from < 4; from++) for (int k = 0; k < 4; k++) {
            x.back(from);
            x.back(k);
            due("whole " + k, x.whole(0, 1), wholes[k]);
        }
        of("with 200 TEARS, SCARS and DEPTHS");
        x = Bench.floor(1, 1, "dry 1000;let 1;most 9;heal 0");
        x.image(0);
        for (int k = 0; k < 23; k++) {
            x.tick(0, 1);
            x.rain(0, 1);
        }
        x.image(1);
        full = Bench.picture(x);
        x.back(0);
        due("no tears", x.count(12), 0);
        due("no scars", x.count(17), 0);
        x.tick(0, 1);
        due("nine", x.count(12), 9);
        due("back", x.back(1), 23);
        BENCH.unchanged("back to 200 tears", x, full);
        due("200", x.count(12), 200);
    }

    public static void main(String[] args) {
        ahead();
        goesBy();
        candidates();
        lead();
        slow();
        whole();
        much();
        finger();
        images();
        backWithAll();
        BENCH.close();
    }
}
