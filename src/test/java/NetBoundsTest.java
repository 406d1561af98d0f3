/** The boundary cases of rooms, rounds and ages: part III, and promises 14, 15 and 17 to 23. */
public final class NetBoundsTest {
    private static final Bench BENCH = new Bench();
    private static final int LOWEST = Bench.LOWEST;
    private static final int HIGHEST = Bench.HIGHEST;
    private static final int[] TEE = {20, 29, 113};
    private static final int[] RING = {40, 125, 41, 135};

    private static void of(String words) { BENCH.of(words); }
    private static void due(String call, long got, long want) { BENCH.due(call, got, want); }

    /** Rooms, tees, crosses, turns, ends, torn, tears, sides, least, greatest, ticks, all sides, tears ever. */
    private static void counts(String name, CrackedMud x, int... dues) {
        for (int w = 0; w < dues.length; w++) due(name + ": count " + w, x.count(w), dues[w]);
    }

    /** A dry floor that heals from 600 on by law 2. */
    private static CrackedMud healing() {
        CrackedMud x = Bench.strong(1);
        Bench.law(x, "heal 600");
        return x;
    }

    /** Heals one edge alone, which is strong then, and dries its cells again. */
    private static void heal(CrackedMud x, int edge) {
        int cell = edge < 90 ? edge / 9 * 10 + edge % 9 : edge - 90;
        int other = edge < 90 ? cell + 1 : cell + 10;
        x.press(cell % 10, cell / 10, 0, 999);
        x.press(other % 10, other / 10, 0, 999);
        due("heals", x.rain(2, 1), 1);
        x.scratch(edge, 0);
        for (int c = 0; c < 100; c++) x.press(c % 10, c / 10, 0, 0);
        due("edge " + edge, x.edge(0, edge, 0), 0);
    }

    private static void oneRoom() {
        of("ROOMS: CELLS that hang together; with nothing TORN");
        CrackedMud x = Bench.floor(1, 500);
        counts("whole", x, 1, 0, 0, 0, 0, 0, 0, 1, 100, 100, 0, 1, 0);
        for (int c = 0; c < 100; c++) {
            due("room of " + c, x.cell(c % 10, c / 10, 7), 0);
            due("room " + c, x.room(c, 0), c == 0 ? 100 : -1);
        }
        due("sides", x.room(0, 1), 1);
        due("at the end", x.room(0, 2), 1);
        of("NONE without these (no ROOM of that number)");
        for (int w : new int[] {-1, 3, LOWEST, HIGHEST}) due("what " + w, x.room(0, w), -1);
        for (int w = 0; w < 3; w++) {
            for (int r : new int[] {-1, 1, 99, 100, LOWEST, HIGHEST}) due("room " + r + " what " + w, x.room(r, w), -1);
        }
        of("how many other ROOMS it has an EDGE in common with that is TORN");
        x = Bench.strong(1);
        Bench.rip(x, 40);
        due("an edge within a room is no side", x.room(0, 1), 1);
        due("rooms", x.count(0), 1);
    }

    private static void allRooms() {
        of("ROOMS numbered by their least CELL: with all TORN");
        CrackedMud x = Bench.shattered(1);
        counts("shattered", x, 100, 0, 81, 0, 0, 180, x.count(6), 4, 1, 1, 60, 64 * 4 + 32 * 4 + 4 * 3);
        for (int c = 0; c < 100; c++) {
            boolean left = c % 10 == 0 || c % 10 == 9;
            boolean upper = c / 10 == 0 || c / 10 == 9;
            due("room of " + c, x.cell(c % 10, c / 10, 7), c);
            due("size of " + c, x.room(c, 0), 1);
            due("sides of " + c, x.room(c, 1), left && upper ? 3 : 4);
            due("end at " + c, x.room(c, 2), left || upper ? 1 : 0);
        }
        for (int r : new int[] {-1, 100}) due("room " + r, x.room(r, 0), -1);
        of("MEAN: SIDES by ROOMS, in lowest terms");
        due("round", x.round(), 1);
        int[] dues = {100, 0, 0, 0, 81, 180, 99, 25};
        for (int w = 0; w < 8; w++) due("what " + w, x.rounds(0, w), dues[w]);
        of("WIDE: in lowest terms");
        due("64 cells by 64 rooms", x.wide(0) * 10 + x.wide(1), 11);
        of("no edge is left to tear");
        due("ahead", x.ahead(0, 60, 1), 0);
        due("tick", x.tick(0, 60), 120);
        due("torn", x.count(5), 180);
    }

    private static void sides() {
        of("SIDES: how many other ROOMS, and 1 if it has a CELL at the end of the FLOOR");
        CrackedMud x = Bench.strong(1);
        Bench.rip(x, 0, 90);
        due("the corner's size", x.room(0, 0), 1);
        due("two edges, one room, and the end", x.room(0, 1), 2);
        due("the rest begins at 1", x.room(1, 0), 99);
        due("the rest's sides", x.room(1, 1), 2);
        x = Bench.strong(1);
        Bench.rip(x, 89, 179);
        due("the last corner", x.room(99, 0), 1);
        due("its sides", x.room(99, 1), 2);
        due("its end", x.room(99, 2), 1);
        due("its cell", x.cell(9, 9, 7), 99);
        x = Bench.strong(1);
        Bench.rip(x, RING);
        due("inside", x.room(45, 1) * 10 + x.room(45, 2), 10);
        due("outside", x.room(0, 1) * 10 + x.room(0, 2), 21);
        x = Bench.strong(1);
        Bench.rip(x, 9, 10, 91, 101);
        due("one off the end", x.room(11, 1) * 10 + x.room(11, 2), 10);
        due("round about it", x.room(0, 1) * 10 + x.room(0, 2), 21);
    }

    private static void nodes() {
        of("NODES that are not at the BORDER by their TORN EDGES");
        CrackedMud x = Bench.strong(1);
        Bench.rip(x, 0);
        counts("an end at (1, 1)", x, 1, 0, 0, 0, 1, 1);
        Bench.rip(x, 90);
        counts("a turn", x, 2, 0, 0, 1, 0, 2);
        Bench.rip(x, 9);
        counts("a tee, an end", x, 2, 1, 0, 0, 1, 3);
        Bench.rip(x, 91);
        counts("a cross, two ends", x, 2, 0, 1, 0, 2, 4);
        x = Bench.strong(1);
        Bench.rip(x, 89, 80);
        counts("plain at (9, 9)", x, 1, 0, 0, 0, 1, 2);
        Bench.rip(x, 178);
        counts("a tee", x, 1, 1, 0, 0, 2, 3);
        Bench.rip(x, 179);
        counts("a cross", x, 2, 0, 1, 0, 2, 4);
        x = Bench.strong(1);
        Bench.rip(x, 178, 179);
        counts("plain of the other way", x, 1, 0, 0, 0, 1, 2);
        x = Bench.strong(1);
        for (int k = 0; k < 10; k++) Bench.weaken(x, 9 * k);
        x.tick(0, 10);
        counts("a line from border to border has no ends", x, 2, 0, 0, 0, 0, 10);
    }

    private static void count() {
        of("count: NONE for others, and for 0 to 12, 15, 17 without a FLOOR");
        CrackedMud x = new CrackedMud();
        for (int w = -2; w < 21; w++) due("without a floor " + w, x.count(w), w == 13 || w == 14 || w == 16 ? 0 : -1);
        for (int w : new int[] {LOWEST, HIGHEST}) due("count " + w, x.count(w), -1);
        Bench.law(x, "dry 1");
        Bench.want(x, "want 1=1");
        Bench.want(x, "want 1=1");
        x.feed(0, 0, 0, 0, 0);
        due("laws", x.count(13), 1);
        due("wants", x.count(14), 2);
        due("bytes", x.count(16), 20);
        x.begin(1, 0, 1, 1);
        for (int w = 0; w < 18; w++) due("there is " + w, x.count(w) >= 0 ? 1 : 0, 1);
        for (int w : new int[] {-1, 18, LOWEST, HIGHEST}) due("count " + w, x.count(w), -1);
        of("tears: TEARS with some EDGE; TEARS ever");
        x = healing();
        Bench.rip(x, 40, 20);
        due("two", x.count(6) * 10 + x.count(12), 22);
        heal(x, 40);
        due("one of two", x.count(6) * 10 + x.count(12), 12);
        heal(x, 20);
        due("none of two", x.count(6) * 10 + x.count(12), 2);
        due("scars", x.count(17), 2);
    }

    private static void rounds() {
        of("ROUNDS, 60 at most: how many there are; NONE: 60, or no FLOOR");
        CrackedMud x = new CrackedMud();
        due("no floor", x.round(), -1);
        x = Bench.strong(1);
        due("none yet", x.count(15), 0);
        due("no round 0", x.rounds(0, 0), -1);
        due("nor from 0 on", x.around(0), -1);
        for (int k = 1; k < 60; k++) due("round", x.round(), k);
        Bench.rip(x, 40);
        due("the sixtieth", x.round(), 60);
        String before = Bench.picture(x);
        due("full", x.round(), -1);
        due("full still", x.round(), -1);
        BENCH.unchanged("a round too many", x, before);
        due("the last one", x.rounds(59, 5), 1);
        due("the one ahead of it", x.rounds(58, 5), 0);
        due("the first one", x.rounds(0, 5), 0);
        of("Of a ROUND what 0 to 7. NONE without these");
        for (int r : new int[] {-1, 60, LOWEST, HIGHEST}) {
            for (int w = 0; w < 8; w++) due("round " + r + " what " + w, x.rounds(r, w), -1);
            due("around " + r, x.around(r), -1);
        }
        int[] dues = {1, 2, 0, 0, 0, 1, 1, 1};
        for (int w = 0; w < 8; w++) due("what " + w, x.rounds(59, w), dues[w]);
        for (int w : new int[] {-1, 8, LOWEST, HIGHEST}) due("what " + w, x.rounds(59, w), -1);
        due("around the last", x.around(59), -2);
        due("around the first", x.around(0), -2);
        x.begin(1, 0, 9999, 9999);
        due("empty again", x.count(15), 0);
        due("no round 0", x.rounds(0, 0), -1);
        due("the first", x.round(), 1);
        due("no round 1", x.rounds(1, 0), -1);
        of("one writes down how many there are: they stay so");
        Bench.law(x, "heal 600");
        for (int c = 0; c < 100; c++) x.press(c % 10, c / 10, 0, 0);
        Bench.rip(x, RING);
        due("rooms then", x.rounds(0, 0), 1);
        due("second", x.round(), 2);
        due("rooms", x.rounds(1, 0), 2);
        due("turns", x.rounds(1, 2), 4);
        due("mean above", x.rounds(1, 6), 3);
        due("mean below", x.rounds(1, 7), 2);
    }

    private static void turnsRound() {
        of("more CROSSES and TEES together than in the one ahead of it, but fewer ROOMS (or the other way round)");
        CrackedMud x = healing();
        x.round();
        Bench.rip(x, TEE);
        x.round();
        due("more tees, as many rooms", x.around(0), -2);
        Bench.rip(x, RING);
        x.round();
        due("as many tees, more rooms", x.around(0), -2);
        heal(x, 40);
        x.round();
        due("as many tees, fewer rooms", x.around(0), -2);
        heal(x, 113);
        x.round();
        due("fewer tees, as many rooms", x.around(0), -2);
        Bench.rip(x, 113);
        x.round();
        Bench.rip(x, 40);
        heal(x, 113);
        x.round();
        due("fewer tees, more rooms: the other way round", x.around(0), 6);
        Bench.rip(x, 113);
        heal(x, 40);
        x.round();
        due("the first one", x.around(0), 6);
        due("from that one on", x.around(6), 6);
        due("from the next one on: more tees, fewer rooms", x.around(7), 7);
        due("not there", x.around(8), -1);
        x.round();
        due("there, but it is as the one ahead of it", x.around(8), -2);
        of("neither if both grow, or both get fewer");
        x = healing();
        x.round();
        Bench.rip(x, TEE);
        Bench.rip(x, RING);
        x.round();
        due("both more", x.around(0), -2);
        heal(x, 113);
        heal(x, 40);
        x.round();
        due("both fewer", x.around(0), -2);
        of("CROSSES and TEES together");
        x = healing();
        Bench.rip(x, TEE);
        Bench.rip(x, RING);
        x.round();
        Bench.rip(x, 112);
        heal(x, 40);
        due("a cross for a tee", x.count(2) * 10 + x.count(1), 10);
        x.round();
        due("as many together, fewer rooms", x.around(0), -2);
        of("more CROSSES alone, or fewer");
        x = healing();
        Bench.rip(x, RING);
        x.round();
        Bench.rip(x, TEE);
        Bench.rip(x, 112);
        heal(x, 40);
        x.round();
        due("a cross more, a room fewer", x.around(0), 1);
        Bench.rip(x, 40);
        heal(x, 112);
        heal(x, 113);
        x.round();
        due("a cross fewer, a room more", x.around(2), 2);
        x = healing();
        Bench.rip(x, TEE);
        Bench.rip(x, 112, 40);
        x.round();
        Bench.rip(x, 85, 76, 175);
        x.round();
        due("a tee more beside a cross, as many rooms", x.around(0), -2);
        Bench.rip(x, RING);
        x.round();
        heal(x, 41);
        Bench.rip(x, 36, 45, 130);
        due("a cross, two tees", x.count(2) * 10 + x.count(1), 12);
        x.round();
        due("a tee more beside a cross, fewer rooms", x.around(0), 3);
        of("the first ROUND has none ahead of it");
        due("round 0 alone", Bench.shattered(1).around(0), -1);
        x = Bench.shattered(1);
        x.round();
        due("round 0 alone", x.around(0), -2);
        for (int r : new int[] {-1, 1, LOWEST, HIGHEST}) due("around " + r, x.around(r), -1);
    }

    private static void ages() {
        of("older: NONE without these (unlike)");
        CrackedMud x = Bench.strong(1);
        due("no tears", x.older(0, 1), -1);
        due("no tears", x.older(0, 0), -1);
        due("no tear", x.rank(0), -1);
        due("no rings", x.order(0), 0);
        due("none open", x.order(1), 0);
        Bench.rip(x, 40);
        due("one tear", x.older(0, 0), -1);
        due("one tear", x.older(0, 1), -1);
        due("its rank", x.rank(0), 0);
        due("no rings", x.order(0), 0);
        due("no pair", x.order(1), 0);
        Bench.rip(x, 20);
        due("two apart", x.older(0, 1) + x.older(1, 0), 0);
        due("one pair", x.order(1), 1);
        for (int t : new int[] {-1, 2, 199, 200, LOWEST, HIGHEST}) {
            due("older " + t, x.older(t, 0), -1);
            due("than " + t, x.older(0, t), -1);
            due("both " + t, x.older(t, t), -1);
            due("rank " + t, x.rank(t), -1);
        }
        for (int w : new int[] {-1, 2, LOWEST, HIGHEST}) due("order " + w, x.order(w), -1);
        of("not than itself by its own TIP");
        x = Bench.strong(1);
        Bench.rip(x, RING);
        due("ended in itself", x.tear(0, 2), 0);
        due("no ring", x.order(0), 0);
        due("rank", x.rank(0), 0);
        x = healing();
        Bench.rip(x, 40);
        heal(x, 40);
        due("ended in itself by rain", x.tear(0, 2), 0);
        due("no ring", x.order(0), 0);
        chains();
    }

    private static void chains() {
        of("and so on by way of others");
        // a stair of nine edges, begun in one tick by how much they are scratched: each ends in the one ahead of it
        int[] stair = {40, 135, 50, 146, 60, 157, 70, 168, 80};
        CrackedMud x = Bench.strong(1);
        for (int k = 0; k < 9; k++) x.scratch(stair[k], 9998 - k);
        x.tick(0, 1);
        for (int t = 0; t < 9; t++) {
            due("began " + t, x.tear(t, 0), stair[t]);
            due("ended " + t, x.tear(t, 2), t == 0 ? -3 : t - 1);
            due("rank " + t, x.rank(t), t);
            for (int o = 0; o < 9; o++) due(t + " older than " + o, x.older(t, o), t == o ? -1 : t < o ? 1 : 0);
        }
        due("none open", x.order(1), 0);
        due("no rings", x.order(0), 0);
        // five in a line, each of which goes on into the next: the last is the oldest
        x = Bench.strong(1);
        Bench.weaken(x, 4, 22, 40, 58, 76);
        x.tick(0, 1);
        due("ten pairs are open", x.order(1), 10);
        Bench.weaken(x, 13, 31, 49, 67);
        x.tick(1, 1);
        for (int t = 0; t < 5; t++) {
            due("ended " + t, x.tear(t, 3), t == 4 ? -3 : t + 1);
            due("rank " + t, x.rank(t), 4 - t);
            for (int o = 0; o < 5; o++) due(t + " older than " + o, x.older(t, o), t == o ? -1 : t > o ? 1 : 0);
        }
        due("none open", x.order(1), 0);
        due("no rings", x.order(0), 0);
    }

    /** Tears of great numbers: others before them have come and healed. */
    private static void manyTears() {
        of("OLDER, among up to 200 TEARS");
        int[] stair = {40, 135, 50, 146, 60, 157, 70, 168, 80};
        int[] apart = {0, 2, 4, 6, 8, 18, 20, 22, 24};
        for (int before : new int[] {0, 54, 63, 117, 126, 180, 189}) {
            CrackedMud x = Bench.strong(1);
            Bench.law(x, "let 1;most 9;heal 0");
            Bench.weaken(x, apart);
            for (int k = 0; k < before / 9; k++) {
                x.tick(0, 1);
                x.rain(2, 1);
            }
            for (int e : apart) x.scratch(e, 0);
            due("came and healed", x.count(12), before);
            for (int k = 0; k < 9; k++) x.scratch(stair[k], 9998 - k);
            x.tick(0, 1);
            for (int t = 0; t < 9; t++) {
                due("ended " + (before + t), x.tear(before + t, 2), t == 0 ? -3 : before + t - 1);
                due("rank " + (before + t), x.rank(before + t), t);
                for (int o = 0; o < 9; o++) {
                    due((before + t) + " older than " + (before + o), x.older(before + t, before + o), t == o ? -1 : t < o ? 1 : 0);
                }
            }
            int all = before + 9;
            due("open", x.order(1), all * (all - 1) / 2 - 36);
            due("no rings", x.order(0), 0);
        }
    }

    /** Single cells cut out of the rest: how many sides the rest has. */
    private static void manySides() {
        of("how many other ROOMS, whatever their numbers");
        int[][] cut = {{0, 63}, {0, 64}, {64, 65}, {0, 64, 65, 99}, {62, 63, 64}, {9, 90, 99}, {0, 9, 90, 99, 33, 63, 65, 67}};
        for (int[] cells : cut) {
            CrackedMud x = Bench.strong(1);
            for (int c : cells) {
                if (c % 10 > 0) Bench.weaken(x, c / 10 * 9 + c % 10 - 1);
                if (c % 10 < 9) Bench.weaken(x, c / 10 * 9 + c % 10);
                if (c / 10 > 0) Bench.weaken(x, 90 + c - 10);
                if (c / 10 < 9) Bench.weaken(x, 90 + c);
            }
            x.tick(0, 20);
            due("rooms", x.count(0), cells.length + 1);
            int rest = x.cell(5, 5, 7);
            due("the rest", x.room(rest, 0), 100 - cells.length);
            due("its sides", x.room(rest, 1), cells.length + 1);
        }
    }

    private static void wide() {
        of("WIDE part 0, 1 (0 by 0: none); NONE without these");
        CrackedMud x = new CrackedMud();
        due("no floor", x.wide(0), -1);
        due("no floor", x.wide(1), -1);
        x = Bench.strong(1);
        due("none above", x.wide(0), 0);
        due("none below", x.wide(1), 0);
        for (int p : new int[] {-1, 2, LOWEST, HIGHEST}) due("part " + p, x.wide(p), -1);
        Bench.rip(x, 0, 90);
        due("a room at the end is none of these", x.wide(0) + x.wide(1), 0);
        of("ROOMS that are not at the end of the FLOOR");
        x = Bench.strong(1);
        // the 64 cells from (1, 1) to (8, 8)
        for (int k = 1; k < 9; k++) Bench.weaken(x, 9 * k, 9 * k + 8, 90 + k, 170 + k);
        x.tick(0, 20);
        due("rooms", x.count(0), 2);
        due("the greatest", x.wide(0), 64);
        due("of one", x.wide(1), 1);
        due("its number", x.room(11, 0), 64);
        due("turns", x.count(3), 4);
    }

    public static void main(String[] args) {
        oneRoom();
        allRooms();
        sides();
        nodes();
        count();
        rounds();
        turnsRound();
        ages();
        manyTears();
        manySides();
        wide();
        BENCH.close();
    }
}
