/** Each promise of the document by itself: ordinary inputs, the edges that it names, wrong inputs. */
public final class PromisesTest {
    private static final int LEAST = Integer.MIN_VALUE;
    private static final int MOST = Integer.MAX_VALUE;
    private static int wrong = 0;
    private static int promise = 0;

    private static void due(String call, long got, long want) {
        if (got != want) {
            wrong++;
            System.out.println("promise " + promise + ": " + call + " answered " + got + ", due is " + want);
        }
    }

    private static void due(String call, boolean got, boolean want) { due(call, got ? 1 : 0, want ? 1 : 0); }

    private static void tape(CrackedMud x, String text) {
        for (int at = 0; at < text.length(); at += 20) {
            int[] n = new int[5];
            for (int k = 0; k < 20; k++) n[k / 4] |= (at + k < text.length() ? text.charAt(at + k) & 255 : 0) << 24 - k % 4 * 8;
            x.feed(n[0], n[1], n[2], n[3], n[4]);
        }
        x.end(text.length());
    }

    private static int law(CrackedMud x, String text) { tape(x, text); return x.law(); }
    private static int want(CrackedMud x, String text) { tape(x, text); return x.want(); }

    /** What a text with a fault of a sort at a place is answered. */
    private static int fault(int place, int sort) { return -2 - (1 + 8 * place + sort); }

    private static int[] around(int n) { return new int[] {n, LEAST, MOST}; }

    private static CrackedMud floor(int layers, int hold) {
        CrackedMud x = new CrackedMud();
        x.begin(layers, 0, hold, hold);
        return x;
    }

    /** A floor whose top is dry and so strong that only edges that are scratched wholly tear. */
    private static CrackedMud strong(int layers) {
        CrackedMud x = floor(layers, 9999);
        for (int c = 0; c < 100; c++) x.press(c % 10, c / 10, 0, 0);
        law(x, "let 1;most 9");
        law(x, "let 1;most 0");
        return x;
    }

    private static void weaken(CrackedMud x, int... edges) { for (int e : edges) x.scratch(e, 9999); }

    /** Tears these edges, each in a tick of its own if it must be so. */
    private static void rip(CrackedMud x, int... edges) {
        for (int e : edges) {
            weaken(x, e);
            x.tick(0, 1);
        }
    }

    private static void newObject() {
        promise = 1;
        CrackedMud x = new CrackedMud();
        due("NONE", CrackedMud.NONE, -1);
        due("press", x.press(0, 0, 0, 5), -1);
        due("press shade", x.press(0, 0, 4, 5), -1);
        due("cell", x.cell(0, 0, 4), -1);
        due("cell room", x.cell(0, 0, 7), -1);
        due("scratch", x.scratch(0, 5), -1);
        due("edge", x.edge(0, 0, 3), -2);
        due("tick", x.tick(0, 1), -1);
        due("rain", x.rain(0, 1), -1);
        due("tear", x.tear(0, 0), -4);
        due("room", x.room(0, 0), -1);
        for (int w = -1; w < 20; w++) due("count " + w, x.count(w), w == 13 || w == 14 || w == 16 ? 0 : -1);
        due("met", x.met(0), -1);
        due("round", x.round(), -1);
        due("rounds", x.rounds(0, 0), -1);
        due("around", x.around(0), -1);
        due("older", x.older(0, 1), -1);
        due("order", x.order(0), -1);
        due("rank", x.rank(0), -1);
        due("wide", x.wide(0), -1);
        due("ahead", x.ahead(0, 0, 0), -1);
        due("half", x.half(0, 0, 0), -1);
        due("miss", x.miss(0, 0), -1);
        due("likeliest", x.likeliest(0), -1);
        due("candidate", x.candidate(0, 0, 0), false);
        due("lead", x.lead(0, 0, 0), -1);
        due("slow", x.slow(0, 0), -1);
        due("whole", x.whole(0, 0), -1);
        due("much", x.much(0, 1), -1);
        due("finger", x.finger(0), -1);
        due("finger 1", x.finger(1), -1);
        due("image", x.image(0), -1);
        due("back", x.back(0), -1);
        law(x, "dry 1");
        want(x, "want 1 = 1");
        due("tick with a law", x.tick(0, 1), -1);
        due("rain with a law", x.rain(0, 1), -1);
        due("met with a want", x.met(0), -1);
        due("ahead with a law", x.ahead(0, 0, 0), -1);
        due("half with a law", x.half(0, 0, 0), -1);
        due("lead with both", x.lead(0, 0, 0), -1);
        due("slow with a law", x.slow(0, 0), -1);
        due("whole with a law", x.whole(0, 0), -1);
        due("much with a law", x.much(0, 1), -1);
        due("edge by a law", x.edge(0, 0, 6), -2);
        due("laws", x.count(13), 1);
        due("wants", x.count(14), 1);
    }

    private static void begin() {
        promise = 2;
        CrackedMud x = new CrackedMud();
        due("0 layers", x.begin(0, 0, 1, 1), false);
        due("5 layers", x.begin(5, 0, 1, 1), false);
        due("seed -1", x.begin(1, -1, 1, 1), false);
        due("seed least", x.begin(1, LEAST, 1, 1), false);
        due("least 0", x.begin(1, 0, 0, 1), false);
        due("greatest 10000", x.begin(1, 0, 1, 10000), false);
        due("greatest below", x.begin(1, 0, 7, 6), false);
        due("still none", x.count(0), -1);
        due("widest", x.begin(4, MOST, 1, 9999), true);
        long r = MOST;
        for (int e = 0; e < 180; e++) {
            r = (r * 1103515245L + 12345) % 2147483648L;
            due("grain " + e, x.edge(0, e, 3), 1 + r / 65536 % 9999);
        }
        due("narrow", x.begin(2, 1, 300, 302), true);
        r = 1;
        for (int e = 0; e < 180; e++) {
            r = (r * 1103515245L + 12345) % 2147483648L;
            due("grain " + e, x.edge(0, e, 3), 300 + r / 65536 % 3);
        }
        x = strong(2);
        rip(x, 40);
        x.scratch(7, 7);
        x.press(1, 1, 4, 3);
        x.press(1, 1, 5, 3);
        x.press(1, 1, 1, 3);
        x.round();
        x.candidate(0, 5, 5);
        want(x, "want torn = 1");
        due("candidates are told", x.lead(0, 0, 0), 0);
        due("refused", x.begin(1, 0, 2, 1), false);
        due("torn stays", x.count(5), 1);
        due("rounds stay", x.count(15), 1);
        due("ticks stay", x.count(10), 1);
        due("anew", x.begin(3, 0, 1, 1), true);
        int[] whats = {0, 5, 6, 10, 12, 15, 17};
        int[] dues = {1, 0, 0, 0, 0, 0, 0};
        for (int k = 0; k < whats.length; k++) due("count " + whats[k], x.count(whats[k]), dues[k]);
        due("scratch gone", x.edge(0, 7, 4), 0);
        due("shade gone", x.cell(1, 1, 4), 0);
        due("salt gone", x.cell(1, 1, 5), 0);
        due("wet again", x.cell(1, 1, 1), 1000);
        due("third layer", x.cell(1, 1, 2), 1000);
        due("laws stay", x.count(13), 2);
        x.begin(1, 0, 1001, 1001);
        law(x, "dry 400;let 1");
        want(x, "want torn > 0");
        due("no candidates", x.lead(2, 1, 1), -2);
    }

    private static void press() {
        promise = 3;
        CrackedMud x = floor(3, 500);
        due("wet", x.press(0, 9, 0, 0), 1000);
        due("wet again", x.press(0, 9, 0, 1000), 0);
        due("layer 2", x.press(9, 0, 2, 17), 1000);
        due("layer 3", x.press(9, 0, 3, 17), -1);
        due("shade", x.press(4, 5, 4, 9), 0);
        due("salt", x.press(4, 5, 5, 8), 0);
        due("shade was", x.press(4, 5, 4, 0), 9);
        due("salt was", x.press(4, 5, 5, 0), 8);
        due("shade 10", x.press(4, 5, 4, 10), -1);
        due("salt -1", x.press(4, 5, 5, -1), -1);
        due("wet 1001", x.press(4, 5, 0, 1001), -1);
        due("wet -1", x.press(4, 5, 0, -1), -1);
        due("what 6", x.press(4, 5, 6, 0), -1);
        due("what -1", x.press(4, 5, -1, 0), -1);
        for (int n : around(10)) {
            due("x " + n, x.press(n, 0, 0, 5), -1);
            due("y " + n, x.press(0, n, 0, 5), -1);
            due("what " + n, x.press(0, 0, n, 5), -1);
        }
        due("x -1", x.press(-1, 1, 0, 5), -1);
        due("y -1", x.press(1, -1, 0, 5), -1);
        due("nothing happened", x.cell(9, 0, 0), 1000);
        due("nothing happened", x.cell(4, 5, 0), 1000);
        due("it is so", x.cell(9, 0, 2), 17);
    }

    private static void cell() {
        promise = 4;
        CrackedMud x = strong(4);
        x.press(2, 3, 0, 400);
        x.press(2, 3, 3, 300);
        x.press(2, 3, 4, 4);
        x.press(2, 3, 5, 5);
        int[] dues = {400, 1000, 1000, 300, 4, 5, 600, 0, -1};
        for (int w = 0; w < dues.length; w++) due("what " + w, x.cell(2, 3, w), dues[w]);
        due("another", x.cell(3, 2, 0), 0);
        for (int n : around(10)) {
            due("x " + n, x.cell(n, 0, 0), -1);
            due("y " + n, x.cell(0, n, 0), -1);
            due("what " + n, x.cell(0, 0, n), -1);
        }
        due("x -1", x.cell(-1, 0, 0), -1);
        due("y -1", x.cell(0, -1, 7), -1);
        due("what -1", x.cell(0, 0, -1), -1);
        rip(x, 8, 107, 98, 108, 99);
        due("corner room", x.cell(9, 0, 7), 9);
        due("the rest", x.cell(8, 0, 7), 0);
        x = floor(1, 5);
        due("no second layer", x.cell(0, 0, 1), -1);
    }

    private static void scratch() {
        promise = 5;
        CrackedMud x = floor(1, 500);
        due("first", x.scratch(0, 9999), 0);
        due("again", x.scratch(0, 3), 9999);
        due("last", x.scratch(179, 1), 0);
        due("is so", x.edge(0, 179, 4), 1);
        due("n 10000", x.scratch(0, 10000), -1);
        due("n -1", x.scratch(0, -1), -1);
        due("edge -1", x.scratch(-1, 5), -1);
        for (int n : around(180)) due("edge " + n, x.scratch(n, 5), -1);
        due("nothing happened", x.edge(0, 0, 4), 3);
        law(x, "let 1");
        due("holds", x.edge(0, 0, 6), 497);
        x.scratch(0, 500);
        due("holds 1 at least", x.edge(0, 0, 6), 1);
        x.scratch(0, 499);
        due("holds 1", x.edge(0, 0, 6), 1);
    }

    private static void edge() {
        promise = 6;
        CrackedMud x = floor(3, 500);
        law(x, "tear wet + 1;scar 333;heal 900");
        x.press(4, 4, 0, 300);
        x.press(5, 4, 0, 200);
        due("holds by wet", x.edge(0, 40, 6), 500 + 501);
        due("pull within the floor", x.edge(0, 40, 7), (700 + 800) * 6 / 6);
        x.press(1, 0, 0, 0);
        due("pull at the left end", x.edge(0, 0, 7), 1000 * (1 + 3) / 6);
        due("pull one on", x.edge(0, 1, 7), 1000 * (2 + 3) / 6);
        due("pull at the upper end", x.edge(0, 91, 7), 1000 * (1 + 3) / 6);
        law(x, "let 9;most 1");
        due("pull with let 9", x.edge(1, 1, 7), 1000 * (2 + 8) / 18);
        law(x, "let 1");
        due("pull with let 1", x.edge(2, 1, 7), 1000);
        law(x, "tear 99999 * 2");
        due("held above", x.edge(3, 40, 6), 500 + 9999);
        law(x, "tear 0 - 99999");
        due("held below", x.edge(4, 40, 6), 1);
        x.scratch(40, 500);
        x.tick(2, 1);
        due("is torn", x.edge(-1, 40, 0), 1);
        due("its tear", x.edge(99, 40, 1), 0);
        due("depth", x.edge(0, 40, 2), 1);
        due("scratch", x.edge(0, 40, 4), 500);
        due("reach ends at a torn edge", x.edge(1, 39, 7),
            (x.cell(3, 4, 6) + x.cell(4, 4, 6)) * (4 + 1) / 18);
        due("the torn one's own pull", x.edge(1, 40, 7), (x.cell(4, 4, 6) + x.cell(5, 4, 6)) * 10 / 18);
        due("one heals", x.rain(0, 700), 1);
        due("scar", x.edge(0, 40, 5), 1);
        due("no tear", x.edge(0, 40, 1), -1);
        due("no depth", x.edge(0, 40, 2), 0);
        x.scratch(40, 0);
        x.press(4, 4, 0, 250);
        x.press(5, 4, 0, 250);
        due("a scar holds", x.edge(0, 40, 6), (500 + 501) * 333 / 1000);
        due("by another law", x.edge(1, 40, 6), 500);
        x.scratch(40, 9999);
        due("a scar holds 1 at least", x.edge(0, 40, 6), 1);
        for (int n : around(180)) due("edge " + n, x.edge(0, n, 0), -2);
        due("edge -1", x.edge(0, -1, 0), -2);
        for (int n : around(8)) due("what " + n, x.edge(0, 0, n), -2);
        due("what -1", x.edge(0, 0, -1), -2);
        for (int n : around(5)) {
            due("law " + n, x.edge(n, 0, 6), -2);
            due("law " + n, x.edge(n, 0, 7), -2);
            due("law not asked " + n, x.edge(n, 0, 3), 500);
        }
    }

    private static void feedAndEnd() {
        promise = 7;
        CrackedMud x = new CrackedMud();
        for (int k = 1; k <= 20; k++) due("feed " + k, x.feed(0, 0, 0, 0, 0), 20 * k);
        due("one too many", x.feed(0, 0, 0, 0, 0), -1);
        due("bytes", x.count(16), 400);
        promise = 8;
        due("end 381", x.end(381), 381);
        due("would be 401", x.feed(0, 0, 0, 0, 0), -1);
        due("end -1", x.end(-1), -1);
        due("end 382", x.end(382), -1);
        due("end most", x.end(MOST), -1);
        due("end least", x.end(LEAST), -1);
        due("bytes stay", x.count(16), 381);
        due("end 380", x.end(380), 380);
        due("400 again", x.feed(0, 0, 0, 0, 0), 400);
        due("all", x.end(400), 400);
        due("end 0", x.end(0), 0);
        promise = 7;
        x.feed(0x64727920, 0x39393b6e, 0x6f746368, 0x20383b6c, 0x65742039);
        due("highest byte first", x.law(), 0);
        x.begin(1, 0, 9999, 9999);
        x.tick(0, 1);
        due("dry 99", x.cell(0, 0, 6), 99);
    }

    private static void law() {
        promise = 9;
        CrackedMud x = new CrackedMud();
        due("empty", law(x, ""), fault(0, 0));
        due("blanks", law(x, "   "), fault(3, 0));
        due("nothing behind ;", law(x, "dry 1; "), fault(7, 0));
        due("capital", law(x, "Dry 1"), fault(0, 0));
        due("a want", law(x, "want 1=1"), fault(0, 0));
        due("not", law(x, "not 1=1"), fault(0, 0));
        due("drys", law(x, "drys 1"), fault(0, 0));
        due("az", law(x, "az 1"), fault(0, 0));
        due("xz", law(x, "dry xz"), fault(4, 0));
        due("ax", law(x, "dry ax"), fault(4, 0));
        due("below a", law(x, "dry x`"), fault(5, 0));
        due("above z", law(x, "dry x{"), fault(5, 0));
        due("below 0", law(x, "dry 1."), fault(5, 0));
        due("above 9", law(x, "dry 1:"), fault(5, 0));
        due("tab", law(x, "dry\t1"), fault(3, 0));
        due("byte 200", law(x, "dry " + (char) 200), fault(4, 0));
        due("no number", law(x, "notch x"), fault(6, 0));
        due("behind a number", law(x, "notch 5 x"), fault(8, 0));
        due("and behind a number", law(x, "notch 5 and 1=1"), fault(8, 0));
        due("if behind a number", law(x, "let 5 if 1=1"), fault(6, 0));
        due("] behind a number", law(x, "let 5]"), fault(5, 0));
        due("no test", law(x, "dry 1 if ;"), fault(9, 0));
        due("no sign", law(x, "dry 1 if x"), fault(10, 0));
        due("two signs", law(x, "dry 1 if x<1<2"), fault(12, 0));
        due("split sign", law(x, "dry 1 if x< =1"), fault(12, 0));
        due("=<", law(x, "dry 1 if x=<1"), fault(11, 0));
        due("brackets in a sum", law(x, "dry [1]"), fault(4, 0));
        due("] too many", law(x, "dry 1 if 1=1]"), fault(12, 0));
        due("] missing", law(x, "dry 1 if [1=1;dry 2"), fault(13, 0));
        due("not in a sum", law(x, "dry not 1"), fault(4, 0));
        due("test as a sum", law(x, "dry 1=1"), fault(5, 0));
        due("two values", law(x, "dry 1 2"), fault(6, 0));
        due("sign at the end", law(x, "dry 1+"), fault(6, 0));
        due("sign at the start", law(x, "dry -1"), fault(4, 0));
        due("if and if", law(x, "dry 1 if 1=1 if 1=1"), fault(13, 0));
        due("joined word", law(x, "dry 1 if x=1andy=2"), fault(12, 0));
        due("six digits", law(x, "dry 123456"), fault(4, 1));
        due("six zeros", law(x, "let 000001"), fault(4, 1));
        due("let 10", law(x, "let 10"), fault(4, 1));
        due("scar 1001", law(x, "scar 1001"), fault(5, 1));
        due("deepen 1001", law(x, "deepen 1001"), fault(7, 1));
        due("eleven nots", law(x, "dry 1 if " + "not ".repeat(11) + "1=1"), fault(49, 2));
        due("both kinds", law(x, "dry 1 if " + "not[".repeat(5) + "not 1=1" + "]".repeat(5)), fault(29, 2));
        due("60 values and a fact", law(x, "dry 1 if x" + "+x".repeat(58) + "=1"), fault(126, 3));
        due("58 values, fact, value, value", law(x, "dry 1 if x" + "+x".repeat(56) + "=1+1"), fault(125, 3));
        due("word at 61", law(x, "dry 1" + "+1".repeat(59) + "+foo"), fault(124, 0));
        due("number at 61", law(x, "dry 1" + "+1".repeat(59) + "+123456"), fault(124, 1));
        due("over two clauses", law(x, "dry 1" + "+1".repeat(39) + ";dry 1" + "+1".repeat(19) + ";dry 1"), fault(132, 3));
        due("thirteenth", law(x, "dry 1;".repeat(12) + " let 5"), fault(73, 4));
        due("thirteenth is none", law(x, "dry 1;".repeat(12) + "lets 5"), fault(72, 0));
        due("thirteenth is empty", law(x, "dry 1;".repeat(12)), fault(72, 0));
        due("second", law(x, "most 1;dry 1;  most 1001"), fault(15, 4));
        due("none stands", x.count(13), 0);
        due("the tape is empty", x.count(16), 0);
        due("0", law(x, "dry 1" + "+1".repeat(59)), 0);
        due("1", law(x, "  dry1if[x=1or[not y<=2]]and not tick>=3;tear way ;scar 00000;let 9;heal 1000;notch0;most 9;deepen 1000 "), 1);
        due("2", law(x, "dry 1;".repeat(11) + "dry 1"), 2);
        due("3", law(x, "dry 1 if " + "not[".repeat(5) + "1=1" + "]".repeat(5) + " and " + "[".repeat(10) + "x=1" + "]".repeat(10)), 3);
        due("4", law(x, "let 3;most 1;tear 1 if x=1;tear 2 if x=2 and y=3;tear 1"), 4);
        due("5", law(x, "dry 99999"), 5);
        due("6", law(x, "dry wet/0*5+7"), 6);
        due("7", law(x, "tear shade*10+salt;dry tick*2 if way=0"), 7);
        tape(x, "dry 1");
        due("there are 8", x.law(), -1);
        due("the tape stays", x.count(16), 5);
        due("8", x.count(13), 8);
        x.begin(1, 0, 500, 500);
        due("the first clause that holds", x.edge(4, 28, 6), 501);
        due("the second one", x.edge(4, 29, 6), 502);
        due("the third one", x.edge(4, 30, 6), 501);
        due("all 99999", x.tick(5, 1), 1);
        due("held to its wet", x.cell(0, 0, 0), 0);
        x.begin(1, 0, 9999, 9999);
        x.tick(6, 1);
        due("by 0", x.cell(0, 0, 6), 7);
        x.tick(7, 2);
        due("tick", x.cell(9, 9, 6), 7 + 2 * 1 + 2 * 2);
        x.press(3, 3, 4, 2);
        x.press(4, 3, 4, 3);
        x.press(4, 3, 5, 4);
        x.scratch(30, 9000);
        due("both together", x.edge(7, 30, 6), 9999 - 9000 + 54);
        due("one of them", x.edge(7, 31, 6), 9999 + 34);
    }

    private static void roundsIn64Bits() {
        promise = 9;
        CrackedMud x = floor(1, 500);
        law(x, "tear 5 if 65536*65536*32768*65536*2=0;tear 1");
        due("goes round to 0", x.edge(0, 0, 6), 505);
        law(x, "tear 7 if 65536*65536*65536*32768<0;tear 1");
        due("goes round below 0", x.edge(1, 0, 6), 507);
        law(x, "tear 0-7/2");
        due("a sum of a term", x.edge(2, 0, 6), 497);
        law(x, "tear 3 if 0-7=0-7 and 2-9/2*2=0-6;tear 1");
        due("left to right", x.edge(3, 0, 6), 503);
        law(x, "tear 1*2+3*4-6/3");
        due("terms first", x.edge(4, 0, 6), 512);
        law(x, "tear 4 if 1=2 and 1=1 or 1=1;tear 1");
        due("and binds more than or", x.edge(5, 0, 6), 504);
        law(x, "tear 4 if not 1=2 or 1=1 and 1=2;tear 1");
        due("not binds most", x.edge(6, 0, 6), 504);
        law(x, "tear 4 if [1=1 or 1=1] and 1=2;tear 9 if 2>=2 and 2<=2 and not [2<2 or 2>2];tear 1");
        due("brackets", x.edge(7, 0, 6), 509);
        x = floor(1, 500);
        law(x, "tear 9-65536*65536*65536*32768/65536/65536/65536/32768");
        due("least by numbers", x.edge(0, 0, 6), 510);
        law(x, "tear 3-10/4*0");
        due("times 0", x.edge(1, 0, 6), 503);
        law(x, "tear x-10/3");
        due("by, towards 0, of a term", x.edge(2, 1, 6), 498);
        law(x, "tear tick-5/2+x*way*100+y");
        due("words of an edge of way 1", x.edge(3, 90 + 73, 6), 500 - 2 + 300 + 7);
        due("words of an edge of way 0", x.edge(3, 9 * 7 + 3, 6), 500 - 2 + 7);
    }

    private static void want() {
        promise = 10;
        CrackedMud x = new CrackedMud();
        due("a law", want(x, "dry 1"), fault(0, 0));
        due("no test", want(x, "want "), fault(5, 0));
        due("word of laws", want(x, "want wet=1"), fault(5, 0));
        due("if", want(x, "want 1=1 if 1=1"), fault(9, 0));
        due("eleven", want(x, "not " + "not ".repeat(11) + "1=1"), fault(44, 2));
        due("thirteen", want(x, "not 1=1;".repeat(12) + "not 1=1"), fault(96, 4));
        due("too many", want(x, "want 1" + "+1".repeat(58) + "=1"), fault(123, 3));
        due("too many facts", want(x, "want 1" + "+1".repeat(59) + "=1"), fault(124, 3));
        due("ten", want(x, "not " + "not ".repeat(10) + "1=1"), 0);
        for (int k = 1; k < 8; k++) due("number " + k, want(x, "want rooms=" + k), k);
        tape(x, "want 1=1");
        due("there are 8", x.want(), -1);
        due("the tape stays", x.count(16), 8);
        due("wants", x.count(14), 8);
        due("laws", x.count(13), 0);
        due("read as a law", x.law(), fault(0, 0));
    }

    private static void tick() {
        promise = 11;
        CrackedMud x = floor(4, 9999);
        law(x, "dry 100 if x = 3 and y = 4;dry salt");
        x.press(5, 5, 5, 9);
        x.press(6, 6, 3, 0);
        due("one", x.tick(0, 1), 1);
        due("dried, and seeped", x.cell(3, 4, 0), 900 + 12);
        due("below", x.cell(3, 4, 1), 988 + 1);
        due("below that", x.cell(3, 4, 2), 999);
        due("salt", x.cell(5, 5, 0), 991 + 1);
        due("downwards", x.cell(6, 6, 2), 1000 - 125);
        due("downwards", x.cell(6, 6, 3), 125);
        due("elsewhere", x.cell(0, 0, 0), 1000);
        due("sixty", x.tick(0, 60), 61);
        due("0", x.tick(0, 0), -1);
        due("61", x.tick(0, 61), -1);
        due("-1", x.tick(0, -1), -1);
        for (int n : around(1)) due("law " + n, x.tick(n, 1), -1);
        due("law -1", x.tick(-1, 1), -1);
        due("ticks stay", x.count(10), 61);
        // a tip goes straight rather than aside, if both are pulled alike, else where it is pulled more
        x = strong(1);
        rip(x, 40);
        weaken(x, 31, 124, 125);
        x.tick(1, 1);
        due("straight", x.edge(0, 31, 1), 0);
        due("not to the left", x.edge(0, 124, 0), 0);
        due("not to the right", x.edge(0, 125, 0), 0);
        due("nothing aside", x.tear(0, 5), 2);
        x = strong(1);
        rip(x, 40);
        weaken(x, 124, 125);
        x.tick(1, 1);
        due("left before right", x.edge(0, 124, 1), 0);
        due("right stays", x.edge(0, 125, 0), 0);
        x = strong(1);
        rip(x, 40);
        weaken(x, 124, 125);
        x.press(4, 3, 0, 1);
        x.tick(1, 1);
        due("where it is pulled more", x.edge(0, 125, 1), 0);
        due("aside", x.tear(0, 5), 1);
        x = strong(1);
        rip(x, 40);
        weaken(x, 134, 135);
        x.tick(1, 1);
        due("downwards: left is at the right", x.edge(0, 135, 1), 0);
        due("downwards: right stays", x.edge(0, 134, 0), 0);
        x = strong(1);
        rip(x, 135);
        weaken(x, 41, 50);
        x.tick(1, 1);
        due("to the right: left is above", x.edge(0, 41, 1), 0);
        due("to the right: right stays", x.edge(0, 50, 0), 0);
        x = strong(1);
        rip(x, 135);
        weaken(x, 40, 49);
        x.tick(1, 1);
        due("to the left: left is below", x.edge(0, 49, 1), 0);
        due("to the left: right stays", x.edge(0, 40, 0), 0);
    }

    private static void tickTears() {
        promise = 11;
        // a notch lets a tip go on where nothing new begins
        CrackedMud x = floor(1, 1000);
        law(x, "let 1;notch 500");
        law(x, "let 1;notch 501");
        x.press(4, 4, 0, 0);
        x.press(5, 4, 0, 999);
        x.tick(0, 1);
        due("pulled by 1001", x.count(5), 1);
        due("there", x.edge(0, 40, 1), 0);
        x.press(4, 4, 0, 1000);
        x.press(5, 4, 0, 1000);
        x.press(4, 3, 0, 500);
        x.press(5, 5, 0, 500);
        x.tick(1, 1);
        due("below the notch", x.count(5), 1);
        x.tick(0, 1);
        due("as the notch", x.count(5), 3);
        due("up", x.edge(0, 31, 1), 0);
        due("down", x.edge(0, 49, 1), 0);
        // most above, of several the least; the pull as it is when it is asked
        x = floor(1, 1000);
        law(x, "let 3;most 2");
        x.press(4, 4, 0, 0);
        x.press(5, 4, 0, 300);
        x.scratch(39, 400);
        x.tick(0, 1);
        due("1700 above 1000 is most", x.tear(0, 0), 40);
        due("39 would have been 400 above 600, but the reach is less", x.count(12), 2);
        due("39 still", x.tear(1, 0), 39);
        x = floor(1, 1000);
        law(x, "let 3;most 2");
        x.press(4, 4, 0, 0);
        x.press(5, 4, 0, 300);
        x.scratch(39, 300);
        x.tick(0, 1);
        due("by the reach 39 is 666 now", x.count(12), 1);
        // 200 tears in all, no more
        x = floor(1, 1);
        law(x, "dry 1000;let 1;most 9;notch 1000;heal 0");
        for (int k = 0; k < 22; k++) {
            due("ticks", x.tick(0, 1), k + 1);
            due("nine heal", x.rain(0, 1), 9);
        }
        due("198", x.count(12), 198);
        x.tick(0, 1);
        due("200", x.count(12), 200);
        due("two tear", x.count(5), 2);
        x.tick(0, 1);
        due("200 still", x.count(12), 200);
        due("the last one", x.tear(199, 4), 22);
        due("no 201st", x.tear(200, 0), -4);
        // deeper by a layer a tick, if it is dry enough there
        x = strong(4);
        law(x, "let 1;deepen 500");
        weaken(x, 40);
        for (int k = 1; k < 4; k++) {
            x.press(4, 4, k, 0);
            x.press(5, 4, k, 0);
        }
        x.press(4, 4, 2, 1000);
        x.press(5, 4, 2, 1000);
        x.tick(2, 1);
        due("one deeper", x.edge(0, 40, 2), 2);
        x.tick(2, 1);
        due("too wet there", x.edge(0, 40, 2), 2);
        x.press(4, 4, 2, 600);
        x.press(5, 4, 2, 200);
        x.tick(2, 1);
        due("dry enough", x.edge(0, 40, 2), 3);
    }

    private static void rain() {
        promise = 12;
        CrackedMud x = strong(1);
        law(x, "heal 500;scar 0");
        rip(x, 40, 31);
        weaken(x, 0);
        x.tick(0, 1);
        due("three torn", x.count(5), 3);
        x.press(4, 4, 0, 300);
        x.press(5, 4, 0, 300);
        x.press(4, 3, 0, 600);
        x.press(5, 3, 0, 299);
        due("one is wet enough", x.rain(2, 200), 1);
        due("it was 40", x.edge(0, 40, 5), 1);
        due("31 is not", x.edge(0, 31, 0), 1);
        due("the tear stays", x.tear(0, 1), 1);
        due("its tips go on", x.tear(0, 3), -3);
        due("1000 at most", x.rain(2, 1000), 2);
        due("1000", x.cell(4, 4, 0), 1000);
        due("it has none", x.tear(0, 1), 0);
        due("ended in itself", x.tear(0, 2), 0);
        due("ended in itself", x.tear(0, 3), 0);
        due("the border stays", x.tear(1, 2), -2);
        due("the other one in itself", x.tear(1, 3), 1);
        due("scars", x.count(17), 3);
        due("tears", x.count(6), 0);
        due("ever", x.count(12), 2);
        due("a scar holds 1", x.edge(2, 40, 6), 1);
        due("no more heal", x.rain(2, 1), 0);
        x.press(4, 4, 0, 0);
        x.tick(0, 1);
        due("torn again", x.edge(0, 40, 1), 2);
        due("no scar any more", x.edge(0, 40, 5), 0);
        due("two scars", x.count(17), 2);
        due("n 0", x.rain(0, 0), -1);
        due("n 1001", x.rain(0, 1001), -1);
        due("n -1", x.rain(0, -1), -1);
        for (int n : around(3)) due("law " + n, x.rain(n, 5), -1);
        due("law -1", x.rain(-1, 5), -1);
        due("nothing happened", x.cell(4, 4, 0), 0);
        due("lower layers stay dry", floor(2, 5).cell(0, 0, 1), 1000);
        x = floor(2, 9999);
        law(x, "let 1");
        x.press(0, 0, 1, 10);
        x.rain(0, 100);
        due("rain is of layer 0", x.cell(0, 0, 1), 10);
    }

    private static void tear() {
        promise = 13;
        CrackedMud x = strong(1);
        weaken(x, 40, 49, 134, 135);
        x.tick(0, 1);
        int[][] dues = {{40, 1, -3, -3, 0, 1, -4}, {49, 1, 0, -3, 0, 1, -4}, {134, 1, -3, 0, 0, 1, -4}, {135, 1, 0, -3, 0, 1, -4}};
        for (int t = 0; t < 4; t++) for (int w = 0; w < 7; w++) due("tear " + t + " " + w, x.tear(t, w), dues[t][w]);
        due("no fifth", x.tear(4, 0), -4);
        due("-1", x.tear(-1, 0), -4);
        due("what -1", x.tear(0, -1), -4);
        for (int n : around(9)) due("what " + n, x.tear(0, n), -4);
        for (int n : around(4)) due("tear " + n, x.tear(n, 1), -4);
        // into its own
        x = strong(1);
        rip(x, 40, 125, 41, 135);
        due("a ring of its own", x.tear(0, 1), 4);
        due("first tip", x.tear(0, 2), 0);
        due("second tip", x.tear(0, 3), -3);
        due("three aside", x.tear(0, 5), 1);
        // to the border
        x = strong(1);
        rip(x, 9);
        weaken(x, 0);
        x.tick(1, 1);
        due("grown to the border", x.tear(0, 2), -2);
        due("began in", x.tear(0, 4), 0);
        x.tick(1, 5);
        rip(x, 94);
        due("another in tick 7", x.tear(1, 4), 7);
        // straight is 0 at least
        x = strong(1);
        law(x, "heal 100");
        rip(x, 40, 125, 41);
        due("two aside of three", x.tear(0, 5), 1);
        x.press(4, 4, 0, 100);
        x.press(5, 4, 0, 100);
        x.press(5, 3, 0, 100);
        due("two heal", x.rain(2, 1), 2);
        due("one left", x.tear(0, 1), 1);
        due("0 at least", x.tear(0, 5), 0);
        // a new one that meets two others: the edge with the least number counts
        x = strong(1);
        rip(x, 134);
        weaken(x, 135);
        x.tick(0, 1);
        rip(x, 58);
        weaken(x, 49);
        x.tick(1, 1);
        due("58 went up by 49", x.edge(0, 49, 1), 1);
        due("into tear 0", x.tear(1, 2), 0);
        rip(x, 40);
        due("40 meets 49, 134 and 135", x.tear(2, 3), 1);
    }

    private static void room() {
        promise = 14;
        CrackedMud x = strong(1);
        rip(x, 40, 125, 41, 135);
        due("size", x.room(45, 0), 1);
        due("sides", x.room(45, 1), 1);
        due("not at the end", x.room(45, 2), 0);
        due("the rest", x.room(0, 0), 99);
        due("its sides", x.room(0, 1), 2);
        due("at the end", x.room(0, 2), 1);
        due("no such room", x.room(1, 0), -1);
        due("what 3", x.room(45, 3), -1);
        due("what -1", x.room(45, -1), -1);
        for (int n : around(100)) due("room " + n, x.room(n, 0), -1);
        due("room -1", x.room(-1, 0), -1);
        x = strong(1);
        for (int y = 0; y < 10; y++) rip(x, 9 * y + 4);
        due("left half", x.room(0, 0), 50);
        due("right half", x.room(5, 0), 50);
        due("two sides", x.room(5, 1), 2);
        for (int k = 0; k < 10; k++) rip(x, 90 + 40 + k);
        due("a quarter", x.room(50, 0), 25);
        due("another", x.room(55, 0), 25);
        due("not by a corner", x.room(55, 1), 3);
        due("lower", x.room(55, 2), 1);
    }

    private static void count() {
        promise = 15;
        CrackedMud x = strong(2);
        rip(x, 40, 125, 41, 135);
        rip(x, 42);
        weaken(x, 20);
        x.tick(0, 1);
        want(x, "want 1=1");
        x.round();
        x.round();
        x.feed(0, 0, 0, 0, 0);
        // the ring about (5, 4), 42 beside it, 20 away
        int[] dues = {2, 0, 0, 4, 4, 6, 3, 2, 1, 99, 6, 3, 3, 2, 1, 2, 20, 0, -1};
        for (int w = 0; w < dues.length; w++) due("count " + w, x.count(w), dues[w]);
        due("count -1", x.count(-1), -1);
        for (int n : around(18)) due("count " + n, x.count(n), -1);
        rip(x, 49);
        due("tee", x.count(1), 1);
        due("turns", x.count(3), 3);
        rip(x, 134);
        due("cross", x.count(2), 1);
        due("no tee", x.count(1), 0);
        x = strong(1);
        rip(x, 40, 49);
        due("plain is none of these", x.count(1) + x.count(2) + x.count(3), 0);
        due("ends", x.count(4), 2);
        x = strong(1);
        rip(x, 0);
        due("not at the border", x.count(4), 1);
    }

    private static void met() {
        promise = 16;
        CrackedMud x = strong(1);
        rip(x, 40, 125, 41, 135, 42);
        String[] texts = {"want rooms = 2 and tees = 0 and crosses = 0", "want turns=4 and ends=2 and torn=5", "want tears=2;not sides<>2",
            "want sides=2;not least=2;want greatest=99;not greatest<99;want tick=5", "want torn=5;not torn=5", "not torn=4;not torn=6",
            "want torn=5;want torn=4", "want not torn=5 or rooms=2", "not rooms=2"};
        int[] dues = {1, 1, -1, 1, 0, 1, 0, 1, 0};
        int k = 0;
        for (int n = 0; n < texts.length; n++) {
            if (want(x, texts[n]) < 0) {
                due("faulty " + n, dues[n], -1);
            } else {
                due(texts[n], x.met(k), dues[n]);
                k++;
            }
        }
        due("no ninth", x.met(8), -1);
        due("-1", x.met(-1), -1);
        due("least", x.met(LEAST), -1);
        due("most", x.met(MOST), -1);
    }

    private static void rounds() {
        promise = 17;
        CrackedMud x = strong(1);
        rip(x, 40, 125, 41, 135, 42);
        due("first", x.round(), 1);
        promise = 18;
        int[] dues = {2, 2, 4, 0, 0, 5, 3, 2, -1};
        for (int w = 0; w < dues.length; w++) due("what " + w, x.rounds(0, w), dues[w]);
        due("what -1", x.rounds(0, -1), -1);
        due("round -1", x.rounds(-1, 0), -1);
        for (int n : around(1)) due("round " + n, x.rounds(n, 0), -1);
        promise = 19;
        // the ring is opened, but a tee comes elsewhere
        x = strong(1);
        law(x, "heal 600");
        rip(x, 40, 125, 41, 135);
        x.round();
        rip(x, 20, 29, 113);
        x.press(4, 4, 0, 599);
        x.press(5, 4, 0, 599);
        due("40 heals", x.rain(2, 1), 1);
        due("rooms", x.count(0), 1);
        due("tees", x.count(1), 1);
        due("second", x.round(), 2);
        due("third", x.round(), 3);
        due("from 0", x.around(0), 1);
        due("from 1", x.around(1), 1);
        due("from 2", x.around(2), -2);
        due("from 3", x.around(3), -1);
        due("from -1", x.around(-1), -1);
        due("from most", x.around(MOST), -1);
        x.press(4, 4, 0, 0);
        x.press(5, 4, 0, 0);
        x.scratch(113, 0);
        x.press(3, 2, 0, 1000);
        x.press(3, 1, 0, 1000);
        x.press(3, 3, 0, 1000);
        due("113 heals", x.rain(2, 1), 1);
        x.tick(0, 1);
        due("rooms", x.count(0), 2);
        due("tees", x.count(1), 0);
        x.round();
        due("the other way round", x.around(2), 3);
        promise = 17;
        for (int k = 5; k <= 60; k++) due("round", x.round(), k);
        due("61st", x.round(), -1);
        due("60", x.count(15), 60);
        promise = 18;
        due("the last", x.rounds(59, 0), 2);
        due("no more", x.rounds(60, 0), -1);
        x = floor(1, 5);
        x.round();
        due("mean of one room", x.rounds(0, 6) * 10 + x.rounds(0, 7), 11);
        x = strong(1);
        for (int y = 0; y < 10; y++) weaken(x, 9 * y + 4);
        x.tick(0, 10);
        for (int k = 0; k < 10; k++) weaken(x, 130 + k);
        x.tick(0, 10);
        x.round();
        due("four rooms of three sides: above", x.rounds(0, 6), 3);
        due("below", x.rounds(0, 7), 1);
        due("rooms", x.rounds(0, 0), 4);
    }

    private static void older() {
        promise = 20;
        CrackedMud x = strong(1);
        weaken(x, 40, 49, 134, 135);
        x.tick(0, 1);
        due("0 than 1", x.older(0, 1), 1);
        due("1 than 0", x.older(1, 0), 0);
        due("1 than 2", x.older(1, 2), 0);
        due("itself", x.older(2, 2), -1);
        due("none", x.older(0, 4), -1);
        due("none", x.older(4, 0), -1);
        due("-1", x.older(-1, 0), -1);
        due("-1", x.older(0, -1), -1);
        for (int n : around(9)) due("tear " + n, x.older(n, 0), -1);
        promise = 21;
        due("no rings", x.order(0), 0);
        due("open", x.order(1), 3);
        due("what 2", x.order(2), -1);
        due("what -1", x.order(-1), -1);
        promise = 22;
        due("rank 0", x.rank(0), 0);
        due("rank 3", x.rank(3), 1);
        due("rank 4", x.rank(4), -1);
        due("rank -1", x.rank(-1), -1);
        due("rank most", x.rank(MOST), -1);
        CrackedMud z = chain();
        promise = 20;
        due("by way of another", z.older(0, 2), 1);
        due("not the other way", z.older(2, 0), 0);
        promise = 22;
        due("rank by way", z.rank(2), 2);
        promise = 21;
        due("none open", z.order(1), 0);
        // two that end in one another
        z = strong(1);
        weaken(z, 40, 135);
        z.tick(0, 1);
        weaken(z, 125);
        z.tick(1, 1);
        weaken(z, 41);
        z.tick(1, 1);
        due("first tip of 0", z.tear(0, 2), 1);
        due("first tip of 1", z.tear(1, 2), 0);
        due("rings", z.order(0), 2);
        due("open", z.order(1), 1);
        promise = 20;
        due("neither", z.older(0, 1) + z.older(1, 0), 0);
        promise = 22;
        due("rank in a ring", z.rank(0) + z.rank(1), 0);
        // ended in itself makes nobody older
        z = strong(1);
        rip(z, 40, 125, 41, 135);
        promise = 21;
        due("own tip", z.order(0), 0);
        due("no floor's tears", floor(1, 5).order(1), 0);
    }

    /** Tear 1 ended in tear 0, tear 2 in tear 1. */
    private static CrackedMud chain() {
        CrackedMud z = strong(1);
        weaken(z, 40, 135);
        z.tick(0, 1);
        weaken(z, 136);
        z.tick(1, 1);
        weaken(z, 50);
        z.tick(0, 1);
        return z;
    }

    private static void wide() {
        promise = 23;
        CrackedMud x = strong(1);
        due("none above", x.wide(0), 0);
        due("none below", x.wide(1), 0);
        rip(x, 40, 125, 41, 135);
        due("one of one", x.wide(0), 1);
        due("below", x.wide(1), 1);
        // a room of two, (2, 2) and (3, 2)
        rip(x, 19, 102, 103, 21, 113, 112);
        due("rooms", x.count(0), 3);
        due("three cells by two", x.wide(0), 3);
        due("below", x.wide(1), 2);
        due("part 2", x.wide(2), -1);
        due("part -1", x.wide(-1), -1);
        x = strong(1);
        for (int y = 0; y < 10; y++) weaken(x, 9 * y + 4);
        x.tick(0, 10);
        due("rooms at the end do not count", x.wide(0), 0);
    }

    private static void ahead() {
        promise = 24;
        CrackedMud x = floor(1, 500);
        law(x, "dry 300;let 1;most 9");
        due("none", x.ahead(0, 0, 0), 0);
        due("one", x.ahead(0, 1, 0), 9);
        x.tick(0, 1);
        due("one on", x.ahead(0, 1, 0), 27);
        due("fresh", x.ahead(0, 1, 1), 18);
        due("now", x.ahead(0, 0, 0), 9);
        due("fresh now", x.ahead(0, 0, 1), 0);
        due("the floor stays", x.count(5), 9);
        due("its ticks, too", x.count(10), 1);
        due("its wet, too", x.cell(0, 0, 0), 700);
        due("its tears, too", x.count(12), 9);
        due("sixty", x.ahead(0, 60, 0), 180);
        due("61", x.ahead(0, 61, 0), -1);
        due("-1", x.ahead(0, -1, 0), -1);
        due("what 2", x.ahead(0, 1, 2), -1);
        due("what -1", x.ahead(0, 1, -1), -1);
        for (int n : around(1)) due("law " + n, x.ahead(n, 1, 0), -1);
        promise = 25;
        due("torn now", x.half(0, 0, 0), 0);
        due("next", x.half(0, 1, 9), 1);
        due("not within 0", x.half(0, 0, 9), -2);
        due("later", x.half(0, 60, 27), 2);
        due("not within 1", x.half(0, 1, 27), -2);
        due("within 2", x.half(0, 2, 27), 2);
        due("61", x.half(0, 61, 0), -1);
        due("-1", x.half(0, -1, 0), -1);
        for (int n : around(180)) due("edge " + n, x.half(0, 1, n), -1);
        due("edge -1", x.half(0, 1, -1), -1);
        for (int n : around(1)) due("law " + n, x.half(n, 1, 0), -1);
        due("the floor stays", x.count(5), 9);
    }

    private static void goesBy() {
        promise = 26;
        CrackedMud x = floor(1, 500);
        due("no image", x.miss(0, 0), -1);
        x.image(0);
        due("no law", x.miss(0, 0), -1);
        promise = 27;
        due("no laws", x.likeliest(0), -2);
        due("no image", x.likeliest(1), -1);
        due("image 4", x.likeliest(4), -1);
        due("image -1", x.likeliest(-1), -1);
        law(x, "let 1");
        law(x, "dry 300;let 1;most 9");
        law(x, "dry 300;let 1;most 8");
        law(x, "dry 299;let 1;most 9");
        x.tick(1, 2);
        x.image(1);
        promise = 26;
        due("of the law", x.miss(1, 0), 0);
        due("of none", x.miss(0, 0), 27);
        due("of fewer", x.miss(2, 0), 3);
        due("of one alike", x.miss(3, 0), 0);
        due("of 0 ticks", x.miss(0, 1), 0);
        x.scratch(100, 9999);
        x.press(9, 9, 0, 0);
        due("scratches since are not known", x.miss(1, 0), 0);
        promise = 27;
        due("the least of several", x.likeliest(0), 1);
        due("of 0 ticks", x.likeliest(1), 0);
        promise = 26;
        for (int n : around(4)) {
            due("image " + n, x.miss(0, n), -1);
            due("law " + n, x.miss(n, 0), -1);
        }
        due("image -1", x.miss(0, -1), -1);
        due("law -1", x.miss(-1, 0), -1);
        x.tick(0, 58);
        due("60 ticks on", x.miss(1, 0) >= 0 ? 1 : 0, 1);
        x.tick(0, 1);
        due("61 ticks on", x.miss(1, 0), -1);
        promise = 27;
        due("61 ticks on", x.likeliest(0), -1);
        due("59 ticks on", x.likeliest(1) >= 0 ? 1 : 0, 1);
        x.back(0);
        promise = 26;
        due("an image from later", x.miss(1, 1), -1);
        due("this one", x.miss(1, 0), 0);
        x.begin(1, 0, 500, 500);
        due("another floor", x.miss(1, 0), -1);
        promise = 27;
        due("another floor", x.likeliest(0), -1);
        x.back(0);
        promise = 26;
        due("that floor again", x.miss(1, 0), 0);
        x = floor(1, 1);
        law(x, "dry 1000;let 1;most 9");
        x.image(2);
        x.tick(0, 60);
        due("all heal", x.rain(0, 1000), 180);
        due("all", x.miss(0, 2), 180);
        promise = 27;
        due("the only one", x.likeliest(2), 0);
    }

    private static void lead() {
        promise = 28;
        CrackedMud x = floor(1, 1000);
        law(x, "dry 400;let 1;most 9");
        want(x, "want torn = 1");
        want(x, "want torn = 2");
        want(x, "want rooms = 2");
        due("told", x.candidate(5, 179, 9999), true);
        due("told", x.candidate(0, 0, 0), true);
        due("k 6", x.candidate(6, 0, 0), false);
        due("k -1", x.candidate(-1, 0, 0), false);
        due("edge 180", x.candidate(0, 180, 0), false);
        due("edge -1", x.candidate(0, -1, 0), false);
        due("scratch 10000", x.candidate(0, 0, 10000), false);
        due("scratch -1", x.candidate(0, 0, -1), false);
        due("k most", x.candidate(MOST, 0, 0), false);
        promise = 29;
        due("the sixth", x.lead(0, 0, 1), 32);
        x.candidate(0, 40, 199);
        due("too weak a scratch", x.lead(0, 0, 1), 32);
        x.candidate(1, 40, 201);
        due("the least as a number", x.lead(0, 0, 1), 2);
        due("two of them", x.lead(0, 1, 1), 34);
        x.candidate(3, 50, 300);
        due("two of them, least as a number", x.lead(0, 1, 1), 10);
        x.candidate(2, 40, 0);
        x.candidate(1, 40, 500);
        due("fewest", x.lead(0, 0, 1), 2);
        due("with 0 ticks none", x.lead(0, 0, 0), -2);
        due("never", x.lead(0, 2, 1), -2);
        due("the floor stays", x.count(5), 0);
        due("no scratch stays", x.edge(0, 40, 4), 0);
        x.scratch(40, 500);
        due("none is needed", x.lead(0, 0, 1), 0);
        want(x, "want torn = 0");
        due("the greater number of two counts", x.lead(0, 3, 1), 1);
        x.candidate(0, 40, 600);
        due("2 sets it back", x.lead(0, 3, 1), 4);
        due("n 21", x.lead(0, 0, 21), -1);
        due("n -1", x.lead(0, 0, -1), -1);
        due("n 20", x.lead(0, 0, 20) >= -2 ? 1 : 0, 1);
        for (int n : around(4)) {
            due("law " + n, x.lead(n, 0, 1), -1);
            due("want " + n, x.lead(0, n, 1), -1);
        }
        due("law -1", x.lead(-1, 0, 1), -1);
        due("want -1", x.lead(0, -1, 1), -1);
        x = floor(1, 1000);
        law(x, "dry 400;let 1;most 9");
        want(x, "want torn = 1;not tick > 1");
        x.candidate(4, 7, 9999);
        x.candidate(5, 7, 1);
        due("by the greater number of 4 and 5 none", x.lead(0, 0, 1), 16);
        due("by ticks none", x.lead(0, 0, 2), -2);
        x = floor(1, 1000);
        law(x, "dry 400;let 1;most 9");
        want(x, "want torn = 6");
        for (int k = 0; k < 6; k++) x.candidate(k, 20 * k, 500);
        due("all six", x.lead(0, 0, 1), 63);
    }

    private static void slowAndWhole() {
        promise = 30;
        CrackedMud x = floor(1, 500);
        law(x, "dry 300;let 1;most 9");
        due("no tick", x.slow(0, 0), 100);
        due("one", x.slow(0, 1), 83);
        due("four", x.slow(0, 4), 20);
        due("twenty", x.slow(0, 20), 4);
        due("21", x.slow(0, 21), -1);
        due("-1", x.slow(0, -1), -1);
        for (int n : around(1)) due("law " + n, x.slow(n, 1), -1);
        law(x, "dry 1000 - 2 * wet + 400 if wet < 1000;dry 300;let 1");
        law(x, "dry 5000;let 1;most 9");
        due("held first", x.slow(2, 1), 25);
        x.press(0, 0, 0, 400);
        due("not with 0 either", x.slow(0, 1), -2);
        x.tick(0, 1);
        due("torn now does not count", x.slow(0, 0), 100);
        due("the floor stays", x.cell(5, 5, 0), 700);
        x = floor(1, 1000);
        law(x, "dry 1000 if tick = 0;dry 0;let 1;most 1;tear 9999 if wet < 500");
        due("not the one behind the first that fails", x.slow(0, 1), 100);
        law(x, "dry 1000;let 1;tear 9999 if wet < 200");
        due("fast or slow, but not between", x.slow(1, 1), 100);
        law(x, "dry 1000;let 1;tear 9999 if wet >= 200 and wet < 600");
        due("the greatest", x.slow(2, 1), 90);
        promise = 31;
        x = floor(1, 900);
        x.press(5, 5, 4, 9);
        law(x, "dry 500;let 1;tear 0 - 9999 if shade > 0");
        due("two layers hold", x.whole(0, 1), 2);
        law(x, "dry 450;let 1");
        due("one does", x.whole(1, 1), 1);
        due("not twice", x.whole(1, 2), -2);
        due("0 ticks", x.whole(1, 0), 1);
        law(x, "dry 125;let 1");
        due("by layers", x.whole(2, 4), 2);
        x.scratch(5, 900);
        x.press(5, 5, 0, 0);
        x.tick(2, 3);
        due("of a floor anew", x.whole(2, 4), 2);
        due("this one stays", x.count(10), 3);
        due("21", x.whole(0, 21), -1);
        due("-1", x.whole(0, -1), -1);
        for (int n : around(3)) due("law " + n, x.whole(n, 1), -1);
        // dry 50 by 20 ticks: 1000, 575, 505, 496 by layers
        law(x = floor(1, 2 * 496), "dry 50;let 1");
        due("four", x.whole(0, 20), 4);
        law(x = floor(1, 2 * 496 - 1), "dry 50;let 1");
        due("not four either", x.whole(0, 20), -2);
        law(x = floor(4, 2 * 505), "dry 50;let 1");
        due("three", x.whole(0, 20), 3);
        law(x = floor(4, 2 * 575), "dry 50;let 1");
        due("two", x.whole(0, 20), 2);
        x = new CrackedMud();
        x.begin(4, 5, 100, 9000);
        int weakest = 9999;
        for (int e = 0; e < 180; e++) weakest = Math.min(weakest, x.edge(0, e, 3));
        law(x, "dry " + weakest / 2 + ";let 1");
        law(x, "dry " + (weakest / 2 + 1) + ";let 1");
        due("by its seed and numbers: the weakest holds", x.whole(0, 1), 1);
        due("by its seed and numbers: it does not", x.whole(1, 1) == 1 ? 1 : 0, 0);
    }

    private static void much() {
        promise = 32;
        CrackedMud x = strong(1);
        law(x, "heal 500");
        law(x, "heal 0");
        rip(x, 40, 20);
        weaken(x, 60);
        x.tick(0, 1);
        x.press(4, 4, 0, 100);
        x.press(5, 4, 0, 200);
        due("as for the drier cell", x.much(2, 1), 400);
        due("the others", x.much(2, 2), 500);
        due("all", x.much(2, 3), 500);
        due("none", x.much(2, 4), -2);
        due("by 1000", x.much(0, 3), 1000);
        due("1 at least", x.much(3, 3), 1);
        due("180", x.much(0, 180), -2);
        due("181", x.much(0, 181), -1);
        due("0", x.much(0, 0), -1);
        due("-1", x.much(0, -1), -1);
        for (int n : around(4)) due("law " + n, x.much(n, 1), -1);
        due("nothing happened", x.count(5), 3);
        due("nor wet", x.cell(4, 4, 0), 100);
        due("399 is too little", x.rain(2, 399), 0);
        due("1 more", x.rain(2, 1), 1);
    }

    private static void finger() {
        promise = 33;
        CrackedMud x = strong(3);
        law(x, "let 1;deepen 1000;most 9");
        due("none", x.finger(0), 0);
        due("no ticks", x.finger(1), 0);
        weaken(x, 40, 20);
        x.tick(2, 1);
        due("two of two", x.finger(0), 4);
        due("pace", x.finger(1), 2000);
        x.tick(2, 2);
        due("two of three", x.finger(0), 6);
        due("downwards", x.finger(1), 4000 / 3);
        x.tick(2, 60);
        due("slower", x.finger(1), 4000 / 63);
        due("what 2", x.finger(2), -1);
        due("what -1", x.finger(-1), -1);
    }

    private static void images() {
        promise = 34;
        CrackedMud x = strong(2);
        law(x, "heal 1;deepen 1000");
        rip(x, 40, 125);
        x.press(1, 1, 4, 7);
        x.press(1, 1, 5, 6);
        x.round();
        x.candidate(0, 9, 9999);
        want(x, "want torn = 3");
        due("image", x.image(3), 2);
        due("image 4", x.image(4), -1);
        due("image -1", x.image(-1), -1);
        due("image most", x.image(MOST), -1);
        promise = 35;
        due("never made", x.back(2), -1);
        due("back 4", x.back(4), -1);
        due("back -1", x.back(-1), -1);
        x.rain(2, 500);
        x.press(1, 1, 4, 0);
        x.scratch(40, 5);
        x.round();
        x.candidate(0, 9, 0);
        x.tick(2, 7);
        law(x, "dry 3");
        x.feed(1, 2, 3, 4, 5);
        x.begin(1, 3, 77, 88);
        due("back", x.back(3), 2);
        due("torn", x.count(5), 2);
        due("scars", x.count(17), 0);
        due("tears", x.count(12), 1);
        due("rounds", x.count(15), 1);
        due("ticks", x.count(10), 2);
        due("laws stay", x.count(13), 4);
        due("the tape stays", x.count(16), 20);
        due("shade", x.cell(1, 1, 4), 7);
        due("salt", x.cell(1, 1, 5), 6);
        due("layers", x.cell(1, 1, 1) >= 0 ? 1 : 0, 1);
        due("scratch", x.edge(0, 40, 4), 9999);
        due("grain", x.edge(0, 40, 3), 9999);
        due("depth", x.edge(0, 40, 2), 1);
        due("first tip", x.tear(0, 2), -3);
        due("candidates", x.lead(0, 0, 1), 1);
        due("the tips are where they were", x.ahead(0, 1, 0), 2);
        weaken(x, 41);
        x.tick(1, 1);
        due("goes on from there", x.edge(0, 41, 1), 0);
        due("aside", x.tear(0, 5), 1);
        due("back again", x.back(3), 2);
        due("torn", x.count(5), 2);
        promise = 34;
        x.tick(1, 1);
        due("made anew", x.image(3), 3);
        x.tick(1, 1);
        promise = 35;
        due("back to the newer", x.back(3), 3);
        x.begin(2, 9, 5, 5);
        due("another slot", x.image(0), 0);
        x.back(3);
        due("whole by this floor's numbers", x.whole(0, 20), 1);
        due("to the other", x.back(0), 0);
        due("its grain", x.edge(0, 0, 3), 5);
    }

    public static void main(String[] args) {
        newObject();
        begin();
        press();
        cell();
        scratch();
        edge();
        feedAndEnd();
        law();
        roundsIn64Bits();
        want();
        tick();
        tickTears();
        rain();
        tear();
        room();
        count();
        met();
        rounds();
        older();
        wide();
        ahead();
        goesBy();
        lead();
        slowAndWhole();
        much();
        finger();
        images();
        System.out.println(wrong == 0 ? "all promises hold" : wrong + " answers are not as due");
        if (wrong > 0) System.exit(1);
    }
}
