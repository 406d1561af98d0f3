import java.util.Random;

/** Long runs of calls by chance (with fixed seeds), each answered by the class as by the plain model. */
public final class ModelTest {
    private static final String[] LAWS = {
        "dry 300;let 1;most 9", "dry 40 + salt * 5 - shade * 3;most 2;notch 600", "dry wet / 10;notch 500;most 3;let 2",
        "dry 80 if x < 5; dry 30 if y > 4 and not [tick > 5]; dry 10;tear 100 if way = 1;notch 700;most 4",
        "dry 25;tear 0 - wet / 4;scar 300;heal 500;deepen 900;most 2", "dry 1000;most 9;let 9;notch 0;deepen 1000",
        "notch 0;most 0", "dry 60;most 9;let 1;notch 1000;heal 300;scar 0", "dry x * y + 5;notch 300;most 1;let 5",
        "dry 100 if tick/2*2=tick;tear x*37-y*23+way*50;notch 400;most 5;deepen 700;heal 800;scar 500"};
    private static final String[] WANTS = {
        "want torn > 0", "want rooms > 1", "not torn > 10;want ends >= 1", "want tees + crosses > 2 or turns >= 3",
        "want not [rooms = 1] and greatest < 90;not tick > 40", "want tears < 5;want sides <= 4;not least = 1",
        "want torn / (2", "want torn - 3 * tears > 0", "not rooms = 1", "want ends*2<torn"};
    private static final String[] PIECES = {"dry ", "tear ", "want ", "not ", "notch ", "heal ", "let ", "most ", "if ",
        "and ", "or ", "[", "]", "<", "<=", "=", ">=", ">", "+", "-", "*", "/", ";", " ", "x", "y", "tick", "wet",
        "rooms", "torn", "12345", "123456", "0", "9", "1000", "1001", "way", "scar 5", "deepen 3", "X", "\0", "1=1"};

    private final Random chance;
    private final CrackedMud mud = new CrackedMud();
    private final PlainModel model = new PlainModel();
    private final StringBuilder told = new StringBuilder();
    private int wrong = 0;

    private ModelTest(long seed) { chance = new Random(seed); }

    private void due(String call, long got, long want) {
        told.append("  ").append(call).append(" = ").append(got).append('\n');
        if (got != want) {
            wrong++;
            System.out.println(call + " answered " + got + ", due is " + want);
        }
    }

    private int upTo(int n) { return chance.nextInt(n + 1); }

    /** Mostly within the bounds, at times just beyond them or anything. */
    private int about(int least, int most) {
        int k = upTo(60);
        if (k == 0) return least - 1;
        if (k == 1) return most + 1;
        if (k == 2) return chance.nextInt();
        if (k == 3) return least;
        if (k == 4) return most;
        return least + upTo(most - least);
    }

    private String mutated(String text) {
        StringBuilder b = new StringBuilder(text);
        int changes = 1 + upTo(2);
        for (int k = 0; k < changes; k++) {
            int at = upTo(b.length());
            switch (upTo(4)) {
                case 0: if (at < b.length()) b.deleteCharAt(at); break;
                case 1: b.insert(at, (char) upTo(255)); break;
                case 2: b.setLength(at); break;
                default: b.insert(at, PIECES[upTo(PIECES.length - 1)]);
            }
        }
        return b.toString();
    }

    private String sum(boolean want, int size) {
        String[] words = want ? new String[] {"rooms", "tees", "crosses", "turns", "ends", "torn", "tears", "sides", "least", "greatest", "tick"}
            : new String[] {"x", "y", "tick", "wet", "shade", "salt", "way"};
        StringBuilder b = new StringBuilder();
        for (int k = 0; k <= size; k++) {
            if (k > 0) b.append(blank()).append("+-*/".charAt(upTo(3))).append(blank());
            b.append(upTo(1) == 0 ? words[upTo(words.length - 1)] : String.valueOf(upTo(upTo(1) == 0 ? 12 : 99999)));
        }
        return b.toString();
    }

    private String blank() { return " ".repeat(Math.max(0, upTo(5) - 3)); }

    private String test(boolean want, int deep) {
        int k = upTo(9);
        if (deep > 0 && k < 2) return "not " + blank() + test(want, deep - 1);
        if (deep > 0 && k < 4) return "[" + blank() + test(want, deep - 1) + blank() + "]";
        if (deep > 0 && k < 7) return test(want, deep - 1) + (upTo(1) == 0 ? " and " : " or ") + test(want, deep - 1);
        String[] signs = {"<", "<=", "=", ">=", ">"};
        return sum(want, upTo(2)) + blank() + signs[upTo(4)] + blank() + sum(want, upTo(1));
    }

    private String made(boolean want) {
        StringBuilder b = new StringBuilder();
        int clauses = upTo(30) == 0 ? 12 + upTo(1) : 1 + upTo(4);
        String[] kinds = {"notch", "heal", "scar", "let", "most", "deepen"};
        for (int k = 0; k < clauses; k++) {
            if (k > 0) b.append(blank()).append(';').append(blank());
            int deep = upTo(20) == 0 ? 12 : upTo(4);
            if (want) b.append(upTo(1) == 0 ? "want " : "not ").append(test(true, deep));
            else if (upTo(1) == 0) b.append(kinds[upTo(5)]).append(' ').append(upTo(upTo(1) == 0 ? 10 : 1001));
            else b.append(upTo(1) == 0 ? "dry " : "tear ").append(sum(false, upTo(upTo(20) == 0 ? 65 : 3)))
                .append(upTo(1) == 0 ? " if " + test(false, deep) : "");
        }
        return b.toString();
    }

    private void tell(boolean want) {
        String[] ready = want ? WANTS : LAWS;
        String text = upTo(3) > 0 ? ready[upTo(ready.length - 1)] : made(want);
        if (upTo(3) == 0) text = mutated(text);
        if (upTo(400) == 0) text = text + "*1".repeat(150);
        tellText(text, upTo(30) == 0 ? !want : want);
    }

    private void tellText(String all, boolean want) {
        String text = all.length() > 400 ? all.substring(0, 400) : all;
        for (int at = 0; at < text.length(); at += 20) {
            int[] n = new int[5];
            for (int k = 0; k < 20; k++) n[k / 4] |= (at + k < text.length() ? text.charAt(at + k) & 255 : 0) << 24 - k % 4 * 8;
            due("feed", mud.feed(n[0], n[1], n[2], n[3], n[4]), model.feed(n));
        }
        due("end", mud.end(text.length()), model.end(text.length()));
        if (want) due("want <" + text + ">", mud.want(), model.want());
        else due("law <" + text + ">", mud.law(), model.law());
    }

    private void ask() {
        int a = about(0, 9), b = about(0, 9), e = about(0, 179), law = about(0, Math.max(0, model.laws.size() - 1));
        int want = about(0, Math.max(0, model.wants.size() - 1));
        int tears = model.f == null ? 0 : Math.max(0, model.f.cracks.size() - 1);
        int rounds = model.f == null ? 0 : Math.max(0, model.f.rounds.size() - 1);
        int c, d;
        switch (upTo(41)) {
            case 0: if (upTo(9) == 0) begin(); break;
            case 1: case 2: c = about(0, 5); d = c < 4 ? about(0, 1000) : about(0, 9);
                due("press " + a + " " + b + " " + c + " " + d, mud.press(a, b, c, d), model.press(a, b, c, d)); break;
            case 3: case 4: c = about(0, 7);
                due("cell " + a + " " + b + " " + c, mud.cell(a, b, c), model.cell(a, b, c)); break;
            case 5: c = about(0, upTo(1) == 0 ? 500 : 9999);
                due("scratch " + e + " " + c, mud.scratch(e, c), model.scratch(e, c)); break;
            case 6: case 7: case 8: c = about(0, 7);
                due("edge " + law + " " + e + " " + c, mud.edge(law, e, c), model.edge(law, e, c)); break;
            case 9: if (upTo(2) == 0) tell(false); break;
            case 10: if (upTo(2) == 0) tell(true); break;
            case 11: c = about(0, 400); if (upTo(5) == 0) due("end " + c, mud.end(c), model.end(c)); break;
            case 12: case 13: case 14: case 15: c = upTo(3) == 0 ? about(1, 60) : about(1, 3);
                due("tick " + law + " " + c, mud.tick(law, c), model.tick(law, c)); break;
            case 16: c = about(1, 1000); due("rain " + law + " " + c, mud.rain(law, c), model.rain(law, c)); break;
            case 17: case 18: case 19: c = about(0, tears); d = about(0, 5);
                due("tear " + c + " " + d, mud.tear(c, d), model.tear(c, d)); break;
            case 20: case 21: c = upTo(1) == 0 ? about(0, 99) : model.cell(upTo(9), upTo(9), 7); d = about(0, 2);
                due("room " + c + " " + d, mud.room(c, d), model.room(c, d)); break;
            case 22: case 23: c = about(0, 17); due("count " + c, mud.count(c), model.count(c)); break;
            case 24: due("met " + want, mud.met(want), model.met(want)); break;
            case 25: case 26: due("round", mud.round(), model.round()); break;
            case 27: c = about(0, rounds); d = about(0, 7); due("rounds " + c + " " + d, mud.rounds(c, d), model.rounds(c, d)); break;
            case 28: c = about(0, rounds); due("around " + c, mud.around(c), model.around(c)); break;
            case 29: c = about(0, tears); d = about(0, tears); due("older " + c + " " + d, mud.older(c, d), model.older(c, d)); break;
            case 30: c = about(0, 1); due("order " + c, mud.order(c), model.order(c)); break;
            case 31: c = about(0, tears); due("rank " + c, mud.rank(c), model.rank(c)); break;
            case 32: c = about(0, 1); due("wide " + c, mud.wide(c), model.wide(c)); break;
            case 33: c = upTo(5) == 0 ? about(0, 60) : about(0, 5); d = about(0, 1);
                due("ahead " + law + " " + c + " " + d, mud.ahead(law, c, d), model.ahead(law, c, d)); break;
            case 34: c = upTo(5) == 0 ? about(0, 60) : about(0, 5);
                due("half " + law + " " + c + " " + e, mud.half(law, c, e), model.half(law, c, e)); break;
            case 35: c = about(0, 3);
                due("miss " + law + " " + c, mud.miss(law, c), model.miss(law, c));
                if (upTo(3) == 0) due("likeliest " + c, mud.likeliest(c), model.likeliest(c));
                break;
            case 36: c = about(0, 5); d = about(0, 3000);
                due("candidate " + c + " " + e + " " + d, mud.candidate(c, e, d) ? 1 : 0, model.candidate(c, e, d) ? 1 : 0); break;
            case 37: c = upTo(9) == 0 ? about(0, 20) : about(0, 2);
                due("lead " + law + " " + want + " " + c, mud.lead(law, want, c), model.lead(law, want, c)); break;
            case 38: c = upTo(5) == 0 ? about(0, 20) : about(0, 3);
                if (upTo(1) == 0) due("slow " + law + " " + c, mud.slow(law, c), model.slow(law, c));
                else due("whole " + law + " " + c, mud.whole(law, c), model.whole(law, c));
                break;
            case 39: c = upTo(2) == 0 ? about(1, 180) : about(1, 20); due("much " + law + " " + c, mud.much(law, c), model.much(law, c)); break;
            case 40: c = about(0, 1); due("finger " + c, mud.finger(c), model.finger(c)); break;
            default: c = about(0, 3);
                if (upTo(2) > 0) due("image " + c, mud.image(c), model.image(c));
                else due("back " + c, mud.back(c), model.back(c));
        }
    }

    private void begin() {
        int seed = upTo(20) == 0 ? chance.nextInt() : upTo(1) == 0 ? upTo(20) : chance.nextInt() & Integer.MAX_VALUE;
        int layers = about(1, 4), least = about(1, upTo(3) > 0 ? 900 : 9999);
        int greatest = upTo(1) == 0 ? least : upTo(3) > 0 ? least + upTo(400) : about(1, 9999);
        due("begin " + layers + " " + seed + " " + least + " " + greatest,
            mud.begin(layers, seed, least, greatest) ? 1 : 0, model.begin(layers, seed, least, greatest) ? 1 : 0);
    }

    /** Some cells dried or wetted, a tick, at times rain, a round: rooms come and go. */
    private void weather(int steps) {
        for (int k = 0; k < steps && wrong == 0; k++) {
            int law = upTo(Math.max(0, model.laws.size() - 1));
            for (int c = upTo(4); c > 0; c--) {
                int x = upTo(9), y = upTo(9), wet = upTo(2) == 0 ? 1000 : upTo(400);
                due("press " + x + " " + y + " 0 " + wet, mud.press(x, y, 0, wet), model.press(x, y, 0, wet));
            }
            due("tick " + law + " 1", mud.tick(law, 1), model.tick(law, 1));
            if (upTo(2) == 0) {
                int n = 1 + upTo(upTo(2) == 0 ? 999 : 200);
                due("rain " + law + " " + n, mud.rain(law, n), model.rain(law, n));
            }
            due("round", mud.round(), model.round());
        }
        int rounds = model.f == null ? 0 : model.f.rounds.size();
        for (int r = 0; r < rounds; r++) due("around " + r, mud.around(r), model.around(r));
        due("order 0", mud.order(0), model.order(0));
        due("order 1", mud.order(1), model.order(1));
    }

    /** Candidates of some edges that are nearly torn; a want of just so many. */
    private void leads() {
        int law = upTo(Math.max(0, model.laws.size() - 1)), n = 1 + upTo(3);
        for (int k = upTo(6); k > 0; k--) {
            int c = upTo(5), e = upTo(1) == 0 ? upTo(179) : upTo(5) * 30, scratch = upTo(900);
            due("candidate " + c + " " + e + " " + scratch, mud.candidate(c, e, scratch) ? 1 : 0, model.candidate(c, e, scratch) ? 1 : 0);
        }
        int torn = Math.max(0, model.ahead(law, n, 0)) + upTo(4) - 1;
        String text = "want torn " + (upTo(1) == 0 ? "=" : ">=") + " " + Math.max(0, torn);
        tellText(text, true);
        int want = model.wants.size() - 1;
        due("lead " + law + " " + want + " " + n, mud.lead(law, want, n), model.lead(law, want, n));
    }

    /** Everything that can be asked of each edge, cell, tear and room. */
    private void compareAll() {
        for (int e = 0; e < 180; e++) for (int w = 0; w < 6; w++) due("edge all " + e + " " + w, mud.edge(0, e, w), model.edge(0, e, w));
        for (int c = 0; c < 100; c++) for (int w = 0; w < 6; w++) due("cell all", mud.cell(c % 10, c / 10, w), model.cell(c % 10, c / 10, w));
        int tears = model.f == null ? 0 : model.f.cracks.size();
        for (int t = 0; t <= tears; t++) for (int w = 0; w < 6; w++) due("tear all " + t + " " + w, mud.tear(t, w), model.tear(t, w));
        for (int w = -1; w < 19; w++) due("count all " + w, mud.count(w), model.count(w));
    }

    private static boolean run(long seed) {
        ModelTest test = new ModelTest(seed);
        if (test.upTo(20) > 0) test.begin();
        int texts = test.upTo(5);
        if (test.upTo(9) > 0) test.tellText(LAWS[test.upTo(LAWS.length - 1)], false);
        for (int k = 0; k < texts; k++) test.tell(false);
        if (test.upTo(1) == 0) test.tell(true);
        if (test.upTo(2) == 0) test.weather(test.upTo(25));
        if (test.upTo(2) == 0) for (int k = test.upTo(4); k > 0; k--) test.leads();
        int calls = 10 + test.upTo(300);
        for (int k = 0; k < calls && test.wrong == 0; k++) test.ask();
        if (test.wrong == 0) test.compareAll();
        if (test.wrong > 0) System.out.println("run of seed " + seed + ":\n" + test.told);
        return test.wrong == 0;
    }

    public static void main(String[] args) {
        int runs = args.length > 0 ? Integer.parseInt(args[0]) : 800;
        long first = args.length > 1 ? Long.parseLong(args[1]) : 0;
        int bad = 0;
        for (long seed = first; seed < first + runs && bad < 3; seed++) {
            if (!run(seed)) bad++;
        }
        System.out.println(bad == 0 ? runs + " runs go as the model" : "some runs do not go as the model");
        if (bad > 0) System.exit(1);
    }
}
