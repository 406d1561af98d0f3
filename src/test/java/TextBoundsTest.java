/** The boundary cases of the tape, of laws and of wants: part II, and promises 7 to 10 and 16. */
public final class TextBoundsTest {
    private static final Bench BENCH = new Bench();
    private static final int LOWEST = Bench.LOWEST;
    private static final int HIGHEST = Bench.HIGHEST;

    private static void of(String words) { BENCH.of(words); }
    private static void due(String call, long got, long want) { BENCH.due(call, got, want); }

    private static int fault(int place, int sort) { return Bench.fault(place, sort); }
    private static int readLaw(String text) { return Bench.law(new CrackedMud(), text); }
    private static int readWant(String text) { return Bench.want(new CrackedMud(), text); }

    private static void law(String text, int want) { due("law <" + text + ">", readLaw(text), want); }
    private static void want(String text, int want) { due("want <" + text + ">", readWant(text), want); }

    /** Whether a test holds, asked by a law whose tear sum is 1 if it does. */
    private static void holds(String test, boolean so) {
        due(test, Bench.floor(1, 500, "tear 1 if " + test + ";tear 0").edge(0, 0, 6), so ? 501 : 500);
    }

    private static void tape() {
        of("Twenty bytes come behind the TAPE; NONE, if it would have more than 400");
        CrackedMud x = new CrackedMud();
        due("empty", x.count(16), 0);
        for (int k = 1; k <= 20; k++) due("feed " + k, x.feed(k, k, k, k, k), 20 * k);
        due("full", x.feed(1, 1, 1, 1, 1), -1);
        due("full", x.count(16), 400);
        for (int n : new int[] {399, 390, 381}) {
            due("end " + n, x.end(n), n);
            due("would be " + (n + 20), x.feed(1, 1, 1, 1, 1), -1);
            due("stays " + n, x.count(16), n);
        }
        due("end 380", x.end(380), 380);
        due("400 again", x.feed(1, 1, 1, 1, 1), 400);
        of("NONE, and none comes");
        x = Bench.floor(1, 9999);
        Bench.tape(x, " ".repeat(395) + "dry 7");
        due("full", x.feed(HIGHEST, HIGHEST, LOWEST, LOWEST, 0), -1);
        due("the text is as it was", x.law(), 0);
        x.tick(0, 1);
        due("dry 7", x.cell(0, 0, 0), 993);
        of("of each number the highest first");
        x = Bench.floor(1, 9999);
        due("d r y blank, 12;;", x.feed('d' << 24 | 'r' << 16 | 'y' << 8 | ' ', '1' << 24 | '2' << 16, 0, 0, 0), 20);
        x.end(6);
        due("law", x.law(), 0);
        x.tick(0, 1);
        due("dry 12", x.cell(0, 0, 0), 988);
        due("bytes of 255", x.feed(-1, -1, -1, -1, -1), 20);
        due("are none of a law", x.law(), fault(0, 0));
        of("The TAPE has its first n bytes alone; NONE, if it has not so many, or n is below 0");
        x = Bench.floor(1, 9999);
        due("0 of none", x.end(0), 0);
        due("1 of none", x.end(1), -1);
        due("-1 of none", x.end(-1), -1);
        Bench.tape(x, "dry 123");
        due("all", x.end(7), 7);
        for (int n : new int[] {8, 400, 401, HIGHEST, -1, LOWEST}) due("end " + n, x.end(n), -1);
        due("stays", x.count(16), 7);
        due("the first five", x.end(5), 5);
        due("the others are gone", x.end(6), -1);
        due("dry 1", x.law(), 0);
        x.tick(0, 1);
        due("dry 1", x.cell(0, 0, 0), 999);
        Bench.tape(x, "dry 1");
        due("none", x.end(0), 0);
        due("none", x.count(16), 0);
        due("no text", x.law(), fault(0, 0));
    }

    /** A text cut at each place reads as one that never was longer: what is behind the cut is gone. */
    private static void cuts() {
        of("The TAPE has its first n bytes alone");
        String text = "dry 12345 if tick<=10 and not [x>=3 or y<4];most 9 ;tear wet*2";
        for (int n = 0; n <= text.length(); n++) {
            CrackedMud x = new CrackedMud();
            Bench.tape(x, text);
            due("end " + n, x.end(n), n);
            due("law of " + n, x.law(), readLaw(text.substring(0, n)));
        }
        CrackedMud x = new CrackedMud();
        Bench.tape(x, " ".repeat(389) + "dry 1 if 1<=1".substring(0, 11));
        due("< as the last byte of 400", x.law(), fault(400, 0));
        Bench.tape(x, " ".repeat(388) + "dry 1 if 1<=");
        due("<= as the last bytes of 400", x.law(), fault(400, 0));
        Bench.tape(x, "dry 1 if 1<=1");
        x.end(11);
        due("the = behind the end is none", x.law(), fault(11, 0));
        Bench.tape(x, "dry 1 if 1<=1");
        x.end(12);
        due("the 1 behind the end is none", x.law(), fault(12, 0));
        Bench.tape(x, "let 12");
        x.end(5);
        due("the 2 behind the end is none", x.law(), 0);
        Bench.tape(x, "dry xy");
        x.end(5);
        due("the y behind the end is none", x.law(), 1);
    }

    private static void lengths() {
        of("texts of at most 400 bytes");
        law("dry 1" + " ".repeat(395), 0);
        law(" ".repeat(395) + "dry 1", 0);
        want("want 1=1" + " ".repeat(392), 0);
        of("the end (behind the last byte)");
        law("", fault(0, 0));
        want("", fault(0, 0));
        law(" ", fault(1, 0));
        law(" ".repeat(400), fault(400, 0));
        want(" ".repeat(400), fault(400, 0));
        law("dry 1+" + " ".repeat(394), fault(400, 0));
        law("dry 1;" + " ".repeat(394), fault(400, 0));
        law("dry 1" + " ".repeat(394) + "x", fault(399, 0));
        law("dry 1" + " ".repeat(394) + ";", fault(400, 0));
        law("notch" + " ".repeat(391) + "1001", fault(396, 1));
        law("d", fault(0, 0));
        law("dry", fault(3, 0));
        law("dry 1 if", fault(8, 0));
        law("dry 1 if 1", fault(10, 0));
        law("dry 1 if 1=", fault(11, 0));
        law("dry 1 if 1<", fault(11, 0));
        law("dry 1 if [1=1", fault(13, 0));
        law("dry 1 if not", fault(12, 0));
        law("dry 1 if 1=1 and", fault(16, 0));
        law("dry 1 if 1=1 or", fault(15, 0));
        law("let", fault(3, 0));
        want("want", fault(4, 0));
        want("not", fault(3, 0));
        want("want 1=1;", fault(9, 0));
        of("The TAPE, which is empty then");
        CrackedMud x = new CrackedMud();
        due("a fault", Bench.law(x, "dry"), fault(3, 0));
        due("empty", x.count(16), 0);
        due("a fault", Bench.want(x, "dry"), fault(0, 0));
        due("empty", x.count(16), 0);
        due("a law", Bench.law(x, "dry 1"), 0);
        due("empty", x.count(16), 0);
        due("a want", Bench.want(x, "want 1=1"), 0);
        due("empty", x.count(16), 0);
        due("of a faulty one no number", Bench.law(x, "dry 1") * 10 + Bench.want(x, "want 1=1"), 11);
    }

    private static void numbers() {
        of("LAWS 0 to 7; NONE, and nothing happens: there are 8");
        CrackedMud x = new CrackedMud();
        for (int k = 0; k < 8; k++) {
            due("faulty", Bench.law(x, "dry 1+"), fault(6, 0));
            due("laws", x.count(13), k);
            due("law " + k, Bench.law(x, "dry " + k), k);
        }
        Bench.tape(x, "want 1=1");
        due("there are 8", x.law(), -1);
        due("the tape stays", x.count(16), 8);
        due("laws", x.count(13), 8);
        due("its text, too", x.want(), 0);
        due("there are 8, with no text either", x.law(), -1);
        due("nor with a faulty one", Bench.law(x, "dry"), -1);
        due("that stays", x.count(16), 3);
        x.begin(1, 0, 9999, 9999);
        for (int k = 0; k < 8; k++) due("law " + k, x.tick(k, 1), k + 1);
        due("dried by each", x.cell(0, 0, 0), 1000 - 28);
        due("there is no law 8", x.tick(8, 1), -1);
        of("WANTS 0 to 7; NONE, and nothing happens: there are 8");
        x = Bench.floor(1, 500);
        for (int k = 0; k < 8; k++) {
            due("faulty", Bench.want(x, "want 1"), fault(6, 0));
            due("wants", x.count(14), k);
            due("no want " + k + " yet", x.met(k), -1);
            due("want " + k, Bench.want(x, "want tick = " + k % 2), k);
        }
        Bench.tape(x, "dry 1");
        due("there are 8", x.want(), -1);
        due("the tape stays", x.count(16), 5);
        due("wants", x.count(14), 8);
        due("its text, too", x.law(), 0);
        for (int k = 0; k < 8; k++) due("met " + k, x.met(k), 1 - k % 2);
        for (int k : new int[] {-1, 8, LOWEST, HIGHEST}) due("met " + k, x.met(k), -1);
    }

    private static void clauses() {
        of("CLAUSE { ; CLAUSE }, 12 at most; 4 a thirteenth CLAUSE (at its first byte)");
        law("dry 1;".repeat(11) + "dry 1", 0);
        law("dry 1;".repeat(12) + "dry 1", fault(72, 4));
        law("dry 1;".repeat(12) + "   dry 1", fault(75, 4));
        law("notch 1;heal 1;scar 1;let 1;most 1;deepen 1;dry 1;dry 2;tear 1;tear 2;dry 3;tear 3", 0);
        law("notch 1;heal 1;scar 1;let 1;most 1;deepen 1;dry 1;dry 2;tear 1;tear 2;dry 3;tear 3;tear 4", fault(83, 4));
        want("want 1=1;".repeat(11) + "want 1=1", 0);
        want("not 1=1;".repeat(11) + "not 1=1", 0);
        want("want 1=1;".repeat(12) + "want 1=1", fault(108, 4));
        want("not 1=1;".repeat(12) + "not 1=1", fault(96, 4));
        of("Of one place the least: a thirteenth that is none");
        law("dry 1;".repeat(12) + "foo", fault(72, 0));
        law("dry 1;".repeat(12) + "1", fault(72, 0));
        law("dry 1;".repeat(12), fault(72, 0));
        law("dry 1;".repeat(12) + " ", fault(73, 0));
        law("dry 1;".repeat(12) + "want 1=1", fault(72, 0));
        want("want 1=1;".repeat(12) + "dry 1", fault(108, 0));
        of("once at most each; 4 a second one (at its first byte)");
        String[] kinds = {"notch", "heal", "scar", "let", "most", "deepen"};
        for (String kind : kinds) {
            law(kind + " 1; " + kind + " 1", fault(kind.length() + 4, 4));
            law(kind + " 1;" + kind, fault(kind.length() + 3, 4));
            law(kind + " 1;" + kind + "s 1", fault(kind.length() + 3, 0));
            for (String other : kinds) if (!other.equals(kind)) law(kind + " 1;" + other + " 1", 0);
        }
        law("dry 1;dry 1;tear 1;tear 1", 0);
        of("an empty CLAUSE is none");
        law(";", fault(0, 0));
        law(";dry 1", fault(0, 0));
        law("dry 1;;dry 1", fault(6, 0));
        of("a WANT has no CLAUSE of a LAW, and the other way round");
        for (String kind : kinds) want(kind + " 1", fault(0, 0));
        want("dry 1", fault(0, 0));
        want("tear 1", fault(0, 0));
        law("want 1=1", fault(0, 0));
        law("not 1=1", fault(0, 0));
    }

    private static void settings() {
        String[] kinds = {"notch", "heal", "scar", "let", "most", "deepen"};
        int[] least = {0, 0, 0, 1, 0, 0};
        int[] most = {1000, 1000, 1000, 9, 9, 1000};
        for (int k = 0; k < kinds.length; k++) {
            of(kinds[k] + " NUMBER (" + least[k] + " to " + most[k] + ")");
            int place = kinds[k].length() + 1;
            law(kinds[k] + " " + least[k], 0);
            law(kinds[k] + " " + most[k], 0);
            law(kinds[k] + " " + (most[k] + 1), fault(place, 1));
            law(kinds[k] + " 99999", fault(place, 1));
            law(kinds[k] + " 100000", fault(place, 1));
            law(kinds[k] + " 000001", fault(place, 1));
            law(kinds[k] + " 00001", 0);
            law(kinds[k] + " -1", fault(place, 0));
            law(kinds[k] + " x", fault(place, 0));
            law(kinds[k] + " 1+1", fault(place + 1, 0));
        }
        law("let 0", fault(4, 1));
        law("let 00000", fault(4, 1));
        law("let 00010", fault(4, 1));
        of("(1000, 1000, 1000, 3, 1, 0 without)");
        CrackedMud x = Bench.floor(1, 1000, "let 1;heal 0");
        Bench.law(x, "dry 0");
        x.press(0, 0, 0, 0);
        x.press(1, 0, 0, 0);
        due("let 3", x.edge(1, 0, 7), 2000 * 4 / 6);
        due("let 3", x.edge(1, 1, 7), 1000 * 5 / 6);
        x.tick(0, 1);
        due("heals", x.rain(0, 1), 1);
        due("scar 1000", x.edge(1, 0, 6), 1000);
    }

    private static void values() {
        of("NUMBER (1 to 5 digits, as far as digits go on); 1 a NUMBER of more digits");
        law("dry 0", 0);
        law("dry 99999", 0);
        law("dry 00000", 0);
        law("dry 100000", fault(4, 1));
        law("dry 000000", fault(4, 1));
        law("dry " + "9".repeat(396), fault(4, 1));
        law("dry x+123456+y", fault(6, 1));
        law("dry 1 if 1=123456", fault(11, 1));
        want("want 123456=1", fault(5, 1));
        law("dry 1 123456", fault(6, 0));
        law("123456", fault(0, 0));
        law("dry 1 2", fault(6, 0));
        due("99999", Bench.floor(1, 5, "tear 99999-99998").edge(0, 0, 6), 6);
        due("00012", Bench.floor(1, 5, "tear 00012").edge(0, 0, 6), 17);
        of("WORD (small letters, as far as these go on)");
        String[] words = {"x", "y", "tick", "wet", "shade", "salt", "way"};
        for (String word : words) {
            law("dry " + word, 0);
            law("tear " + word, 0);
            law("dry 1 if " + word + "=1", 0);
            law("dry " + word + "s", fault(4, 0));
            law("dry a" + word, fault(4, 0));
            law("dry " + word.substring(0, word.length() - 1), fault(4, 0));
            law("dry " + word + "1", fault(4 + word.length(), 0));
            law("dry " + word.toUpperCase(), fault(4, 0));
            if (!word.equals("tick")) want("want " + word + "=1", fault(5, 0));
        }
        String[] wanted = {"rooms", "tees", "crosses", "turns", "ends", "torn", "tears", "sides", "least", "greatest", "tick"};
        for (String word : wanted) {
            want("want " + word + "=1", 0);
            want("not 1=" + word, 0);
            want("want " + word + "s=1", fault(5, 0));
            want("want a" + word + "=1", fault(5, 0));
            if (!word.equals("tick")) law("dry " + word, fault(4, 0));
        }
        for (String word : new String[] {"if", "and", "or", "not", "dry", "tear", "want", "notch", "let"}) {
            law("dry " + word, fault(4, 0));
            want("want 1=" + word, fault(7, 0));
        }
        law("dryx", fault(0, 0));
        law("dry1", 0);
        law("dry xif", fault(4, 0));
        law("dry 1if 1=1", 0);
        law("dr y 1", fault(0, 0));
    }

    private static void bytes() {
        of("0 a byte that can't stand there");
        for (int b = 0; b < 256; b++) {
            char sign = (char) b;
            boolean letter = sign >= 'a' && sign <= 'z';
            boolean digit = sign >= '0' && sign <= '9';
            boolean reckons = "+-*/".indexOf(sign) >= 0;
            boolean compares = "<=>".indexOf(sign) >= 0;
            String name = "byte " + b;
            due(name + " alone", readLaw("" + sign), fault(b == ' ' ? 1 : 0, 0));
            due(name + " alone in a want", readWant("" + sign), fault(b == ' ' ? 1 : 0, 0));
            due(name + " behind a value", readLaw("dry 1" + sign),
                b == ' ' || digit ? 0 : fault(reckons || b == ';' ? 6 : 5, 0));
            due(name + " behind a word in a test", readLaw("dry 1 if x" + sign),
                fault(letter ? 9 : reckons || compares || b == ' ' ? 11 : 10, 0));
            due(name + " behind <", readLaw("dry 1 if 1<" + sign + "1"),
                b == ' ' || b == '=' || digit ? 0 : fault(b == 'x' || b == 'y' ? 12 : 11, 0));
            due(name + " behind =", readLaw("dry 1 if 1=" + sign + "1"),
                b == ' ' || digit ? 0 : fault(b == 'x' || b == 'y' ? 12 : 11, 0));
            due(name + " behind a fact", readLaw("dry 1 if 1=x" + sign),
                b == ' ' ? 0 : fault(letter ? 11 : reckons || b == ';' ? 13 : 12, 0));
            due(name + " behind a setting", readLaw("let 1" + sign),
                b == ' ' ? 0 : digit ? fault(4, 1) : fault(b == ';' ? 6 : 5, 0));
        }
        of("Blanks (32) stand between as one likes");
        law("dry1if[x=1or[not y<=2]]and not tick>=3", 0);
        law("  dry  1  if  [  x  =  1  or  [  not  y  <=  2  ]  ]  and  not  tick  >=  3  ", 0);
        law("dry 1 if x< =1", fault(12, 0));
        law("dry 1 if x> =1", fault(12, 0));
        law("dry 1 if x=<1", fault(11, 0));
        law("dry 1 if x==1", fault(11, 0));
        law("dry 1 if x<>1", fault(11, 0));
        law("dry 1 if x=1andy=2", fault(12, 0));
    }

    private static void depth() {
        of("[ and not lie within one another 10 deep at most; 2 too deep (at the sign that opens, or the word not)");
        for (int n = 9; n <= 12; n++) {
            String open = "[".repeat(n);
            String shut = "]".repeat(n);
            law("dry 1 if " + open + "1=1" + shut, n > 10 ? fault(19, 2) : 0);
            law("dry 1 if " + "not ".repeat(n) + "1=1", n > 10 ? fault(49, 2) : 0);
            want("want " + open + "1=1" + shut, n > 10 ? fault(15, 2) : 0);
            want("want " + "not ".repeat(n) + "1=1", n > 10 ? fault(45, 2) : 0);
        }
        law("dry 1 if " + "not[".repeat(5) + "1=1" + "]".repeat(5), 0);
        law("dry 1 if " + "not[".repeat(5) + "[1=1" + "]".repeat(6), fault(29, 2));
        law("dry 1 if " + "not[".repeat(5) + "not 1=1" + "]".repeat(5), fault(29, 2));
        law("dry 1 if " + "[".repeat(10) + "not 1=1" + "]".repeat(10), fault(19, 2));
        law("dry 1 if " + "not ".repeat(10) + "[1=1]", fault(49, 2));
        of("within one another: not beside");
        law("dry 1 if " + "[".repeat(10) + "1=1" + "]".repeat(10) + " and " + "[".repeat(10) + "1=1" + "]".repeat(10), 0);
        law("dry 1 if " + "not ".repeat(10) + "1=1 or " + "not ".repeat(10) + "1=1", 0);
        law("dry 1 if " + "[".repeat(10) + "1=1]and[1=1" + "]".repeat(10), 0);
        law("dry 1 if " + "[".repeat(10) + "1=1 and[1=1" + "]".repeat(11), fault(26, 2));
        law("dry 1 if " + "[".repeat(9) + "not 1=1 and not 1=1 or not 1=1" + "]".repeat(9), 0);
        law("dry 1 if " + "[".repeat(9) + "not 1=1 and not not 1=1" + "]".repeat(9), fault(34, 2));
        law("dry 1 if " + "not[".repeat(5) + "1=1" + "]".repeat(5) + " and " + "[".repeat(10) + "1=1" + "]".repeat(10), 0);
        law("dry 1 if " + "[".repeat(10) + "1=1" + "]".repeat(10) + ";tear 1 if " + "[".repeat(10) + "1=1" + "]".repeat(10), 0);
        of("the word not that begins a CLAUSE is none of these");
        want("not " + "not ".repeat(10) + "1=1", 0);
        want("not " + "not ".repeat(11) + "1=1", fault(44, 2));
        want("not " + "[".repeat(10) + "1=1" + "]".repeat(10), 0);
        want("not " + "[".repeat(11) + "1=1" + "]".repeat(11), fault(14, 2));
        of("[ TEST ]: as many ] as [");
        law("dry 1 if [1=1]", 0);
        law("dry 1 if [1=1]]", fault(14, 0));
        law("dry 1 if 1=1]", fault(12, 0));
        law("dry 1 if []", fault(10, 0));
        law("dry 1 if ]", fault(9, 0));
        law("dry 1 if [[1=1]", fault(15, 0));
        law("dry 1 if [1=1;dry 2", fault(13, 0));
        law("dry 1 if [1]=1", fault(11, 0));
        holds("not ".repeat(10) + "1=1", true);
        holds("not ".repeat(9) + "1=1", false);
        holds("[".repeat(10) + "1=2" + "]".repeat(10), false);
    }

    private static void things() {
        of("at most 60 VALUES and FACTS made of a SIGN, together; 3 one too many (at its first byte; of a FACT at its SIGN)");
        law("dry 1" + "+1".repeat(58), 0);
        law("dry 1" + "+1".repeat(59), 0);
        law("dry 1" + "+1".repeat(60), fault(124, 3));
        law("dry 1" + "+ 1".repeat(60), fault(184, 3));
        law("dry x" + "*x".repeat(59), 0);
        law("dry x" + "*x".repeat(60), fault(124, 3));
        want("want 1" + "+1".repeat(57) + "=1", 0);
        want("want 1" + "+1".repeat(58) + "=1", fault(123, 3));
        want("want 1" + "+1".repeat(59) + "=1", fault(124, 3));
        want("want 1" + "+1".repeat(59) + " =1", fault(125, 3));
        want("want 1" + "+1".repeat(59) + ">=1", fault(124, 3));
        want("want 1=1" + " and 1=1".repeat(19), 0);
        want("want 1=1" + " and 1=1".repeat(20), fault(8 + 160 - 3, 3));
        of("together: of all CLAUSES of a text");
        law("dry 1" + "+1".repeat(29) + ";tear 1" + "+1".repeat(29), 0);
        law("dry 1" + "+1".repeat(29) + ";tear 1" + "+1".repeat(29) + ";dry 1", fault(133, 3));
        want("want 1=1;".repeat(11) + "want 1=1", 0);
        of("VALUES and FACTS made of a SIGN: no other sign or NUMBER counts");
        law("notch 1;heal 1;scar 1;let 1;most 1;deepen 1;dry 1" + "+1".repeat(59), 0);
        want("want [not 1=1]" + " and [not 1=1]".repeat(19), 0);
        of("Of one place the least: a sixty-first that is none");
        law("dry 1" + "+1".repeat(59) + "+foo", fault(124, 0));
        law("dry 1" + "+1".repeat(59) + "+123456", fault(124, 1));
        law("dry 1" + "+1".repeat(59) + "+", fault(124, 0));
        law("dry 1" + "+1".repeat(59) + "=", fault(123, 0));
        law("dry 1" + "+1".repeat(59) + ";dry 1", fault(128, 3));
        of("the first along the text");
        law("dry 1+;notch 1001", fault(6, 0));
        law("let 0;foo", fault(4, 1));
        law("dry 1" + "+1".repeat(60) + ";foo", fault(124, 3));
        law("let 1;let 1;foo", fault(6, 4));
        law("dry 1 if " + "[".repeat(11) + "foo", fault(19, 2));
        law("dry 1 if " + "[".repeat(10) + "foo", fault(19, 0));
        due("all sixty are reckoned", Bench.floor(1, 500, "tear 1" + "+1".repeat(59)).edge(0, 0, 6), 560);
    }

    private static void reckoning() {
        of("/ is towards 0, 0 by 0");
        holds("5/0=0", true);
        holds("0/0=0", true);
        holds("7/2=3", true);
        holds("6/7=0", true);
        holds("1-7/2=0-2", true);
        holds("wet/0*9+4=4", true);
        holds("x/y=0", true);
        // 2 to the 63rd goes round to the least number: a third of it is no whole number
        holds("65536*65536*65536*32768/3*3-65536*65536*65536*32768=2", true);
        of("all goes round in 64 bits");
        holds("65536*65536*65536*32768<0", true);
        holds("65536*65536*65536*32768-1>0", true);
        holds("65536*65536*65536*32768-1+1<0", true);
        holds("65536*65536*65536*65536=0", true);
        holds("65536*65536*65536*65536*99999=0", true);
        holds("0-65536*65536*65536*32768=65536*65536*65536*32768", true);
        holds("65536*65536>2", true);
        holds("99999*99999>99999", true);
        of("SIGN one of < <= = >= >");
        int[] others = {4, 5, 6};
        boolean[][] dues = {{true, true, false, false, false}, {false, true, true, true, false}, {false, false, false, true, true}};
        String[] signs = {"<", "<=", "=", ">=", ">"};
        for (int k = 0; k < 3; k++) for (int s = 0; s < 5; s++) holds(others[k] + signs[s] + "5", dues[k][s]);
        of("FACT: not FACT | [ TEST ] | SUM SIGN SUM");
        for (int k = 0; k < 3; k++) for (int s = 0; s < 5; s++) {
            String fact = others[k] + signs[s] + "5";
            boolean so = dues[k][s];
            holds("not " + fact, !so);
            holds("not not " + fact, so);
            holds("[" + fact + "]", so);
            holds("not [" + fact + "]", !so);
            holds(fact + " and 1=1", so);
            holds("1=1 and " + fact, so);
            holds(fact + " or 1=2", so);
            holds("1=2 or " + fact, so);
            holds("1=1 or " + fact, true);
            holds("1=2 and " + fact, false);
            holds(others[k] + signs[s] + "1+4", so);
            holds(others[k] + signs[s] + "9-4", so);
            holds(others[k] + signs[s] + "5*1", so);
            holds(others[k] + signs[s] + "10/2", so);
            holds(others[k] + "*2" + signs[s] + "2*4+2", so);
            holds(others[k] + "-1+1" + signs[s] + "11/2+1-1", so);
            holds("not " + others[k] + "+1*2-2" + signs[s] + "6-1", !so);
        }
        of("[ TEST ] is a FACT, not a VALUE");
        law("dry 1 if [1=1]+1=2", fault(14, 0));
        law("dry 1 if [1=1]=1", fault(14, 0));
        law("dry 1 if 1=[1=1]", fault(11, 0));
        law("dry 1 if 1+[1=1]", fault(11, 0));
        law("dry 1 if not 1", fault(14, 0));
        of("A SUM is that of the first CLAUSE of its sort without a TEST, or whose TEST holds");
        due("the first", Bench.floor(1, 500, "tear 1;tear 2").edge(0, 0, 6), 501);
        due("the second", Bench.floor(1, 500, "tear 1 if 1=2;tear 2").edge(0, 0, 6), 502);
        due("the last of twelve", Bench.floor(1, 500, "tear 1 if 1=2;".repeat(11) + "tear 2").edge(0, 0, 6), 502);
        due("none of twelve", Bench.floor(1, 500, "tear 1 if 1=2;".repeat(11) + "tear 2 if 1=2").edge(0, 0, 6), 500);
        due("of its sort", Bench.floor(1, 500, "dry 3;tear 2;dry 4").edge(0, 0, 6), 502);
    }

    private static void words() {
        of("x, y of its first CELL, way");
        CrackedMud x = Bench.floor(1, 1, "tear x*1000+y*100+way*10");
        int[][] dues = {{0, 0}, {8, 8000}, {9, 100}, {81, 900}, {89, 8900}, {90, 10}, {99, 9010}, {100, 110}, {170, 810}, {179, 9810}};
        for (int[] d : dues) due("edge " + d[0], x.edge(0, d[0], 6), 1 + d[1]);
        of("wet, shade, salt of both together");
        x = Bench.floor(2, 1, "tear wet");
        Bench.law(x, "tear shade*100+salt");
        due("both wet", x.edge(0, 179, 6), 2001);
        for (int c = 8; c < 10; c++) {
            x.press(9, c, 0, 0);
            x.press(9, c, 4, 9);
            x.press(9, c, 5, 9);
        }
        due("both dry", x.edge(0, 179, 6), 1);
        due("most of both", x.edge(1, 179, 6), 1819);
        due("of one", x.edge(1, 169, 6), 910);
        of("way is 0 in dry");
        x = Bench.floor(1, 9999, "dry way*500+x*10+y");
        x.tick(0, 1);
        due("(0, 0)", x.cell(0, 0, 0), 1000);
        due("(9, 9)", x.cell(9, 9, 0), 901);
        due("(9, 0)", x.cell(9, 0, 0), 910);
        due("(0, 9)", x.cell(0, 9, 0), 991);
        of("tick (TICKS)");
        x = Bench.floor(1, 500, "tear tick");
        due("at first", x.edge(0, 0, 6), 500);
        x.tick(0, 60);
        due("behind 60", x.edge(0, 0, 6), 560);
    }

    private static void met() {
        of("A WANT is MET, if all its want TESTS hold and none of its not TESTS");
        String[] texts = {"want 1=1", "want 1=2", "not 1=2", "not 1=1", "want 1=1;not 1=2", "want 1=1;not 1=1", "want 1=2;not 1=2",
            "want 1=1;want 1=2"};
        int[] dues = {1, 0, 1, 0, 1, 0, 0, 0};
        CrackedMud x = Bench.floor(1, 500);
        for (int k = 0; k < texts.length; k++) {
            due(texts[k], Bench.want(x, texts[k]), k);
            due(texts[k], x.met(k), dues[k]);
        }
        x = Bench.floor(1, 500);
        Bench.want(x, "want 1=1;".repeat(11) + "want 1=2");
        Bench.want(x, "want 1=1;".repeat(11) + "not 1=1");
        Bench.want(x, "not 1=2;".repeat(11) + "want 1=1");
        due("the twelfth does not hold", x.met(0), 0);
        due("the twelfth holds", x.met(1), 0);
        due("all twelve", x.met(2), 1);
        Bench.want(x, "want rooms=1 and tees=0 and crosses=0 and turns=0 and ends=0 and torn=0 and tears=0 and sides=1 and least=100 and greatest=100 and tick=0");
        due("an empty floor", x.met(3), 1);
        of("1 if a WANT is MET; NONE without these");
        x = new CrackedMud();
        due("neither", x.met(0), -1);
        Bench.want(x, "want 1=1");
        due("no floor", x.met(0), -1);
        x.begin(1, 0, 1, 1);
        due("both", x.met(0), 1);
        for (int k : new int[] {-1, 1, 8, LOWEST, HIGHEST}) due("met " + k, x.met(k), -1);
    }

    public static void main(String[] args) {
        tape();
        cuts();
        lengths();
        numbers();
        clauses();
        settings();
        values();
        bytes();
        depth();
        things();
        reckoning();
        words();
        met();
        BENCH.close();
    }
}
