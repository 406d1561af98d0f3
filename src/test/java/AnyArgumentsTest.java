import java.util.Random;

/** No call may ever throw: all calls by chance (fixed seeds), with numbers at and about every bound of the document. */
public final class AnyArgumentsTest {
    private static final int[] BOUNDS = {0, 0, 1, 1, 2, 3, 4, 5, 6, 7, 8, 9, 10, 12, 20, 60, 90, 99, 100, 179, 180, 199, 200, 400, 1000,
        9999, 10000, 99999, Integer.MAX_VALUE, Integer.MIN_VALUE, 65536, 256};
    private static final String[] PIECES = {"dry ", "tear ", "want ", "not ", "notch ", "heal ", "scar ", "let ", "most ", "deepen ",
        " if ", " and ", " or ", "[", "]", "<", "<=", "=", ">=", ">", "+", "-", "*", "/", ";", " ", "x", "y", "tick", "wet", "way",
        "shade", "salt", "rooms", "torn", "least", "0", "1", "9", "10", "1000", "1001", "99999", "100000", "\0", "\377", "A", "1=1"};
    private static final String[] LAWS = {"dry 300;let 1;most 9;heal 0", "dry 90+salt*9;notch 0;most 9;let 9;deepen 1000",
        "dry wet;tear 0-wet*wet*wet*wet*wet*wet*wet;most 3;scar 0", "dry 1000 if tick/2*2=tick;most 9;notch 1;heal 500"};
    private static final String[] WANTS = {"want torn/rooms>tick", "not least=greatest;want 1=1"};

    private final Random chance;
    private final CrackedMud mud = new CrackedMud();

    private AnyArgumentsTest(long seed) { chance = new Random(seed); }

    private int upTo(int n) { return chance.nextInt(n + 1); }

    private int any() {
        if (upTo(15) == 0) return chance.nextInt();
        int bound = BOUNDS[upTo(BOUNDS.length - 1)];
        return upTo(3) == 0 ? bound + upTo(2) - 1 : bound;
    }

    /** Mostly a number that may do: else little would ever happen. */
    private int some(int least, int most) { return upTo(3) == 0 ? any() : least + upTo(most - least); }

    private String text() {
        int k = upTo(9);
        if (k < 4) return LAWS[upTo(LAWS.length - 1)];
        if (k < 6) return WANTS[upTo(WANTS.length - 1)];
        StringBuilder b = new StringBuilder(upTo(1) == 0 ? "dry " : "want ");
        for (int n = upTo(upTo(9) == 0 ? 200 : 20); n > 0; n--) b.append(PIECES[upTo(PIECES.length - 1)]);
        return b.substring(0, Math.min(400, b.length()));
    }

    private void call() {
        switch (upTo(36)) {
            case 0: mud.begin(some(1, 4), any(), some(1, 9999), some(1, 9999)); break;
            case 1: mud.press(some(0, 9), some(0, 9), some(0, 5), some(0, 9)); break;
            case 2: mud.cell(some(0, 9), some(0, 9), some(0, 7)); break;
            case 3: mud.scratch(some(0, 179), some(0, 9999)); break;
            case 4: mud.edge(some(0, 7), some(0, 179), some(0, 7)); break;
            case 5: mud.feed(any(), any(), any(), any(), any()); break;
            case 6: mud.end(some(0, 400)); break;
            case 7: Bench.tape(mud, text()); mud.law(); break;
            case 8: Bench.tape(mud, text()); mud.want(); break;
            case 9: mud.law(); break;
            case 10: mud.want(); break;
            case 11: case 12: mud.tick(some(0, 3), some(1, 9)); break;
            case 13: mud.rain(some(0, 3), some(1, 1000)); break;
            case 14: mud.tear(some(0, 199), some(0, 5)); break;
            case 15: mud.room(some(0, 99), some(0, 2)); break;
            case 16: mud.count(some(0, 17)); break;
            case 17: mud.met(some(0, 3)); break;
            case 18: mud.round(); break;
            case 19: mud.rounds(some(0, 59), some(0, 7)); break;
            case 20: mud.around(some(0, 59)); break;
            case 21: mud.older(some(0, 199), some(0, 199)); break;
            case 22: mud.order(some(0, 1)); break;
            case 23: mud.rank(some(0, 199)); break;
            case 24: mud.wide(some(0, 1)); break;
            case 25: mud.ahead(some(0, 3), some(0, 9), some(0, 1)); break;
            case 26: mud.half(some(0, 3), some(0, 9), some(0, 179)); break;
            case 27: mud.miss(some(0, 3), some(0, 3)); break;
            case 28: mud.likeliest(some(0, 3)); break;
            case 29: mud.candidate(some(0, 5), some(0, 179), some(0, 9999)); break;
            case 30: mud.lead(some(0, 3), some(0, 3), some(0, 3)); break;
            case 31: mud.slow(some(0, 3), some(0, 3)); break;
            case 32: mud.whole(some(0, 3), some(0, 5)); break;
            case 33: mud.much(some(0, 3), some(1, 180)); break;
            case 34: mud.finger(some(0, 1)); break;
            case 35: mud.image(some(0, 3)); break;
            default: mud.back(some(0, 3));
        }
    }

    /** What must be so of any floor, whatever came. */
    private boolean isSound() {
        boolean sound = true;
        for (int c = 0; c < 100 && mud.count(0) > 0; c++) {
            int wet = mud.cell(c % 10, c / 10, 0);
            sound &= wet >= 0 && wet <= 1000 && mud.cell(c % 10, c / 10, 7) <= c;
        }
        int torn = 0;
        for (int e = 0; e < 180; e++) torn += Math.max(0, mud.edge(0, e, 0));
        int ofTears = 0;
        for (int t = 0; t < mud.count(12); t++) ofTears += mud.tear(t, 1);
        return sound && torn == Math.max(0, mud.count(5)) && torn == ofTears && mud.count(12) <= 200 && mud.count(15) <= 60
            && mud.count(13) <= 8 && mud.count(14) <= 8 && mud.count(16) <= 400 && mud.finger(0) >= mud.count(5);
    }

    public static void main(String[] args) {
        int runs = args.length > 0 ? Integer.parseInt(args[0]) : 400;
        int wrong = 0;
        for (int seed = 0; seed < runs && wrong < 3; seed++) {
            AnyArgumentsTest test = new AnyArgumentsTest(seed);
            if (test.upTo(4) > 0) test.mud.begin(1 + test.upTo(3), test.upTo(99), 1, 1 + test.upTo(900));
            if (test.upTo(4) > 0) Bench.law(test.mud, LAWS[test.upTo(LAWS.length - 1)]);
            for (int k = 0; k < 500; k++) test.call();
            if (!test.isSound()) {
                wrong++;
                System.out.println("the run of seed " + seed + " leaves a floor that can't be");
            }
        }
        System.out.println(wrong == 0 ? runs + " runs never throw" : "some runs go wrong");
        if (wrong > 0) System.exit(1);
    }
}
