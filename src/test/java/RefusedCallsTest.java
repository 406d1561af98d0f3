import java.util.ArrayList;
import java.util.List;

/**
 * "NONE, and nothing happens": one object is told a story alone, its twin is told it with calls between that
 * must be refused, a third one with questions between; all must answer alike, then and later.
 */
public final class RefusedCallsTest {
    private static final Bench BENCH = new Bench();
    private static final int[] ANY = {Bench.LOWEST, Bench.HIGHEST};

    interface Call { long on(CrackedMud x); }

    record Refusal(String name, long due, Call call) { }

    private static final List<Refusal> REFUSALS = new ArrayList<>();

    private static void refused(String name, long due, Call call) { REFUSALS.add(new Refusal(name, due, call)); }

    /** The bounds themselves, one off on each side, and the ends of int. */
    private static int[] beyond(int least, int most) { return new int[] {least - 1, most + 1, ANY[0], ANY[1]}; }

    private static void gather() {
        for (int n : beyond(1, 4)) refused("begin layers " + n, 0, x -> x.begin(n, 5, 100, 200) ? 1 : 0);
        for (int n : new int[] {-1, ANY[0]}) refused("begin seed " + n, 0, x -> x.begin(2, n, 100, 200) ? 1 : 0);
        for (int n : beyond(1, 9999)) {
            refused("begin least " + n, 0, x -> x.begin(2, 5, n, 9999) ? 1 : 0);
            refused("begin greatest " + n, 0, x -> x.begin(2, 5, 1, n) ? 1 : 0);
        }
        refused("begin 5 4", 0, x -> x.begin(2, 5, 5, 4) ? 1 : 0);
        for (int n : beyond(0, 9)) {
            refused("press x " + n, -1, x -> x.press(n, 0, 0, 5));
            refused("press y " + n, -1, x -> x.press(0, n, 0, 5));
            refused("press shade " + n, -1, x -> x.press(0, 0, 4, n));
            refused("press salt " + n, -1, x -> x.press(0, 0, 5, n));
        }
        for (int n : beyond(0, 5)) {
            refused("press what " + n, -1, x -> x.press(0, 0, n, 5));
            refused("candidate k " + n, 0, x -> x.candidate(n, 5, 5) ? 1 : 0);
        }
        refused("press a layer that is not there", -1, x -> x.press(0, 0, 3, 5));
        for (int n : beyond(0, 1000)) refused("press wet " + n, -1, x -> x.press(0, 0, 0, n));
        for (int n : beyond(0, 179)) {
            refused("scratch edge " + n, -1, x -> x.scratch(n, 5));
            refused("candidate edge " + n, 0, x -> x.candidate(0, n, 5) ? 1 : 0);
        }
        for (int n : beyond(0, 9999)) {
            refused("scratch " + n, -1, x -> x.scratch(0, n));
            refused("candidate scratch " + n, 0, x -> x.candidate(0, 5, n) ? 1 : 0);
        }
        for (int n : beyond(0, 400)) refused("end " + n, -1, x -> x.end(n));
        for (int n : beyond(1, 60)) refused("tick " + n, -1, x -> x.tick(0, n));
        for (int n : beyond(1, 1000)) refused("rain " + n, -1, x -> x.rain(0, n));
        for (int n : beyond(0, 7)) {
            refused("tick law " + n, -1, x -> x.tick(n, 1));
            refused("rain law " + n, -1, x -> x.rain(n, 500));
        }
        for (int n : beyond(0, 3)) {
            refused("image " + n, -1, x -> x.image(n));
            refused("back " + n, -1, x -> x.back(n));
        }
        refused("back to one never made", -1, x -> x.back(3));
    }

    /** A floor of three layers that tears, heals, is gone back to and begun anew; texts half told at times. */
    private static List<Call> story() {
        List<Call> s = new ArrayList<>();
        s.add(x -> Bench.law(x, "dry 60 + salt * 9 - shade if not [x = 3 and y = 3];dry 10;most 3;notch 400;deepen 900"));
        s.add(x -> x.begin(3, 77, 150, 400) ? 1 : 0);
        s.add(x -> x.press(4, 4, 5, 9));
        s.add(x -> x.press(4, 5, 4, 8));
        s.add(x -> x.scratch(49, 120));
        s.add(x -> x.candidate(1, 50, 300) ? 1 : 0);
        s.add(x -> Bench.want(x, "want torn > 12 and tees >= 1"));
        s.add(x -> x.image(0));
        s.add(x -> x.tick(0, 1));
        s.add(x -> x.tick(0, 2));
        s.add(x -> x.round());
        s.add(x -> x.feed('w' << 24 | 'a' << 16 | 'n' << 8 | 't', ' ' << 24 | '1' << 16 | '=' << 8 | '1', 0, 0, 0));
        s.add(x -> x.end(8));
        s.add(x -> x.want());
        s.add(x -> x.tick(0, 1));
        s.add(x -> x.image(1));
        s.add(x -> Bench.law(x, "heal 700;scar 300;dry 100;most 2;notch 800"));
        s.add(x -> x.rain(1, 90));
        s.add(x -> x.round());
        s.add(x -> x.tick(1, 3));
        s.add(x -> x.rain(1, 300));
        s.add(x -> x.round());
        s.add(x -> x.back(1));
        s.add(x -> x.tick(1, 2));
        s.add(x -> x.image(2));
        s.add(x -> x.back(0));
        s.add(x -> x.tick(1, 4));
        s.add(x -> x.back(2));
        s.add(x -> x.tick(0, 1));
        s.add(x -> x.begin(2, 3, 50, 900) ? 1 : 0);
        s.add(x -> x.tick(0, 4));
        s.add(x -> x.round());
        s.add(x -> x.rain(1, 1000));
        s.add(x -> x.back(1));
        s.add(x -> x.tick(0, 5));
        return s;
    }

    private static void refusalsBetween() {
        BENCH.of("NONE, and nothing happens");
        CrackedMud alone = new CrackedMud();
        CrackedMud twin = new CrackedMud();
        int step = 0;
        for (Call call : story()) {
            for (Refusal r : REFUSALS) BENCH.due("before step " + step + ": " + r.name, r.call.on(twin), r.due);
            BENCH.due("step " + step, call.on(twin), call.on(alone));
            step++;
        }
        BENCH.due("all is alike", Bench.picture(twin).equals(Bench.picture(alone)), true);
        BENCH.due("images, too", twin.back(2), alone.back(2));
        BENCH.due("all is alike", Bench.picture(twin).equals(Bench.picture(alone)), true);
    }

    private static void oneByOne() {
        BENCH.of("NONE, and nothing happens, by each refused call");
        CrackedMud x = new CrackedMud();
        for (Call call : story()) call.on(x);
        x.feed(1, 2, 3, 4, 5);
        String before = Bench.picture(x);
        for (Refusal r : REFUSALS) {
            BENCH.due(r.name, r.call.on(x), r.due);
            BENCH.unchanged(r.name, x, before);
        }
    }

    /** What is asked must not change what comes. */
    private static void questionsBetween() {
        BENCH.of("(the FLOOR stays as it is)");
        CrackedMud alone = new CrackedMud();
        CrackedMud asked = new CrackedMud();
        int step = 0;
        for (Call call : story()) {
            String before = Bench.picture(asked);
            BENCH.unchanged("asking before step " + step, asked, before);
            BENCH.due("step " + step, call.on(asked), call.on(alone));
            step++;
        }
        BENCH.due("all is alike", Bench.picture(asked).equals(Bench.picture(alone)), true);
    }

    /** With no floor each call that needs one is refused; a floor begun then is as that of a new object. */
    private static void withoutFloor() {
        BENCH.of("No FLOOR, no texts");
        CrackedMud x = new CrackedMud();
        BENCH.due("press", x.press(0, 0, 0, 5) + x.press(0, 0, 4, 5) + x.press(0, 0, 5, 5), -3);
        BENCH.due("cell", x.cell(0, 0, 0) + x.cell(0, 0, 4) + x.cell(0, 0, 6) + x.cell(0, 0, 7), -4);
        BENCH.due("scratch", x.scratch(0, 5), -1);
        for (int w = 0; w < 8; w++) BENCH.due("edge " + w, x.edge(0, 0, w), -2);
        BENCH.due("tear", x.tear(0, 0), -4);
        for (int w = 0; w < 3; w++) BENCH.due("room " + w, x.room(0, w), -1);
        BENCH.due("round", x.round(), -1);
        BENCH.due("rounds", x.rounds(0, 0), -1);
        BENCH.due("around", x.around(0), -1);
        BENCH.due("older", x.older(0, 1), -1);
        BENCH.due("order", x.order(0) + x.order(1), -2);
        BENCH.due("rank", x.rank(0), -1);
        BENCH.due("wide", x.wide(0) + x.wide(1), -2);
        BENCH.due("candidate", x.candidate(0, 0, 9999), false);
        BENCH.due("finger", x.finger(0) + x.finger(1), -2);
        BENCH.due("image", x.image(0), -1);
        BENCH.due("back", x.back(0), -1);
        for (int texts = 0; texts < 2; texts++) {
            BENCH.due("tick", x.tick(0, 1), -1);
            BENCH.due("rain", x.rain(0, 1), -1);
            BENCH.due("met", x.met(0), -1);
            BENCH.due("ahead", x.ahead(0, 0, 0) + x.ahead(0, 1, 1), -2);
            BENCH.due("half", x.half(0, 0, 0), -1);
            BENCH.due("miss", x.miss(0, 0), -1);
            BENCH.due("likeliest", x.likeliest(0), -1);
            BENCH.due("lead", x.lead(0, 0, 0), -1);
            BENCH.due("slow", x.slow(0, 0), -1);
            BENCH.due("whole", x.whole(0, 0), -1);
            BENCH.due("much", x.much(0, 1), -1);
            BENCH.due("edge by a law", x.edge(0, 0, 6) + x.edge(0, 0, 7), -4);
            BENCH.due("laws", x.count(13), texts);
            BENCH.due("wants", x.count(14), texts);
            if (texts == 0) {
                BENCH.due("a law without a floor", Bench.law(x, "dry 50;let 1;most 4"), 0);
                BENCH.due("a want without a floor", Bench.want(x, "want torn = 1"), 0);
            }
        }
        CrackedMud fresh = new CrackedMud();
        Bench.law(fresh, "dry 50;let 1;most 4");
        Bench.want(fresh, "want torn = 1");
        BENCH.due("begin", x.begin(2, 9, 60, 600), fresh.begin(2, 9, 60, 600));
        BENCH.due("alike", Bench.picture(x).equals(Bench.picture(fresh)), true);
        BENCH.due("tick", x.tick(0, 9), fresh.tick(0, 9));
        BENCH.due("alike", Bench.picture(x).equals(Bench.picture(fresh)), true);
    }

    /** Refused for what is there, not for the numbers: full, not so many, never made. */
    private static void fullAndEmpty() {
        BENCH.of("nothing happens: there are 8; it would have more than 400; ROUNDS are 60");
        CrackedMud x = new CrackedMud();
        for (Call call : story()) call.on(x);
        for (int k = x.count(13); k < 8; k++) Bench.law(x, "dry " + k);
        for (int k = x.count(14); k < 8; k++) Bench.want(x, "want torn = " + k);
        for (int k = x.count(15); k < 60; k++) x.round();
        Bench.tape(x, " ".repeat(400));
        String before = Bench.picture(x);
        BENCH.due("law", x.law(), -1);
        BENCH.due("want", x.want(), -1);
        BENCH.due("feed", x.feed(1, 2, 3, 4, 5), -1);
        BENCH.due("round", x.round(), -1);
        BENCH.unchanged("what is full", x, before);
        BENCH.due("end 400", x.end(400), 400);
        BENCH.unchanged("the whole tape", x, before);
        for (Refusal r : REFUSALS) BENCH.due(r.name, r.call.on(x), r.due);
        BENCH.due("end 401", x.end(401), -1);
        BENCH.unchanged("all refusals", x, before);
    }

    public static void main(String[] args) {
        gather();
        withoutFloor();
        refusalsBetween();
        oneByOne();
        questionsBetween();
        fullAndEmpty();
        BENCH.close();
    }
}
