import java.util.Arrays;

/** A floor of mud that dries, tears, heals and is asked about its net of tears. */
public final class CrackedMud {
    public static final int NONE = -1;

    private static final int WIDTH = 10;
    private static final int CELLS = 100;
    private static final int LAYERS = 4;
    private static final int UPRIGHT = 90;
    private static final int EDGES = 180;
    private static final int LINE = 9;
    private static final int NODE_ROW = 11;
    private static final int NODES = 121;
    private static final int SOAKED = 1000;
    private static final int SPOT_MOST = 9;
    private static final int NUMBER_MOST = 9999;
    private static final int TICKS_MOST = 99999;
    private static final int SPAN_MOST = 60;
    private static final int SHORT_SPAN_MOST = 20;
    private static final int WHOLE_PART = 100;

    private static final int TEARS = 200;
    private static final int TEAR_WORDS = 4;
    private static final int IN_BORDER = -2;
    private static final int GOES_ON = -3;

    private static final int[] STRAIGHT_LEFT_RIGHT = {0, 3, 1};
    private static final int UP = 0;
    private static final int RIGHT = 1;
    private static final int DOWN = 2;
    private static final int LEFT = 3;
    private static final int WAYS = 4;

    private static final int ROUNDS = 60;
    private static final int ROUND_ROW = 7;
    private static final int CANDIDATES = 6;
    private static final int IMAGES = 4;
    private static final int TEXTS = 8;
    private static final int LONGEST = 400;

    private static final int ROOMS_AT = 0;
    private static final int TEES_AT = 1;
    private static final int CROSSES_AT = 2;
    private static final int TURNS_AT = 3;
    private static final int ENDS_AT = 4;
    private static final int TORN_AT = 5;
    private static final int TEARS_AT = 6;
    private static final int SIDES_AT = 7;
    private static final int LEAST_AT = 8;
    private static final int GREATEST_AT = 9;
    private static final int TICKS_AT = 10;
    private static final int ALL_SIDES_AT = 11;
    private static final int FIGURES = 12;

    private static final int NOTCH = 0;
    private static final int HEAL = 1;
    private static final int SCAR = 2;
    private static final int LET = 3;
    private static final int MOST = 4;
    private static final int DEEPEN = 5;
    private static final int SETTINGS = 6;
    private static final int[] USUAL = {1000, 1000, 1000, 3, 1, 0};
    private static final int[] SMALLEST = {0, 0, 0, 1, 0, 0};
    private static final int[] LARGEST = {1000, 1000, 1000, 9, 9, 1000};

    private static final int DRY = 6;
    private static final int TEAR = 7;
    private static final int WANT = 8;
    private static final int NOT_WORD = 9;
    private static final int IF_WORD = 10;
    private static final int AND_WORD = 11;
    private static final int OR_WORD = 12;
    private static final int FIRST_LAW_WORD = 13;
    private static final int X_WORD = 0;
    private static final int Y_WORD = 1;
    private static final int WET_WORD = 2;
    private static final int SHADE_WORD = 3;
    private static final int SALT_WORD = 4;
    private static final int WAY_WORD = 5;
    private static final int TICK_WORD = 6;
    private static final int TICK_SPELT = FIRST_LAW_WORD + TICK_WORD;
    private static final int FIRST_WANT_WORD = TICK_SPELT + 1;
    private static final int VOCABULARY = FIRST_WANT_WORD + GREATEST_AT + 1;

    private static final int CLAUSES = 12;
    private static final int THINGS = 60;
    private static final int DEEPEST = 10;
    private static final int DIGITS = 5;

    private static final int CAN_NOT_STAND = 0;
    private static final int BAD_NUMBER = 1;
    private static final int TOO_DEEP = 2;
    private static final int TOO_MANY = 3;
    private static final int CLAUSE_TOO_MANY = 4;

    private static final int AT_END = 0;
    private static final int A_NUMBER = 1;
    private static final int A_WORD = 2;
    private static final int A_SIGN = 3;
    private static final int WITH_EQUAL = 256;

    private static final int CLAUSE_DUE = 0;
    private static final int SETTING_DUE = 1;
    private static final int FACT_DUE = 2;
    private static final int VALUE_DUE = 3;
    private static final int VALUE_READ = 4;
    private static final int FACT_READ = 5;
    private static final int ALL_READ = 6;
    private static final int SUM_SIDE = 0;
    private static final int LEFT_SIDE = 1;
    private static final int RIGHT_SIDE = 2;
    private static final int PILE = 64;

    private static final int SIGN_BITS = 4;
    private static final int SIGN_MASK = 15;
    private static final int NUMBER = 0;
    private static final int WORD = 1;
    private static final int PLUS = 2;
    private static final int MINUS = 3;
    private static final int TIMES = 4;
    private static final int BY = 5;
    private static final int BELOW = 6;
    private static final int AT_MOST = 7;
    private static final int EQUAL = 8;
    private static final int AT_LEAST = 9;
    private static final int ABOVE = 10;
    private static final int AND = 11;
    private static final int OR = 12;
    private static final int NOT = 13;
    private static final int BRACKET = 14;
    private static final int[] RANKS = {0, 0, 5, 5, 6, 6, 4, 4, 4, 4, 4, 2, 1, 3, 0};

    private final Grid grid = new Grid();
    private final Mud mud = new Mud();
    private final Mud trial = new Mud();
    private final Notes notes = new Notes();
    private final Mud[] images = new Mud[IMAGES];
    private final Notes[] imageNotes = new Notes[IMAGES];
    private final Rule[] laws = new Rule[TEXTS];
    private final Rule[] wants = new Rule[TEXTS];
    private final byte[] tape = new byte[LONGEST];
    private final TextReader reader = new TextReader(tape);
    private final Reckoner reckoner = new Reckoner();
    private final Weather weather = new Weather(grid, reckoner, mud);
    private final Net net = new Net(grid);
    private final Ages ages = new Ages();
    private int lawCount = 0;
    private int wantCount = 0;
    private int tapeLength = 0;
    private int floorsBegun = 0;

    public CrackedMud() {
    }

    public boolean begin(int layers, int seed, int least, int greatest) {
        if (!within(layers, 1, LAYERS) || seed < 0) {
            return false;
        }
        if (!within(least, 1, NUMBER_MOST) || !within(greatest, least, NUMBER_MOST)) {
            return false;
        }
        floorsBegun++;
        mud.lay(layers, seed, least, greatest);
        mud.born = floorsBegun;
        notes.wipe();
        return true;
    }

    public int press(int x, int y, int what, int n) {
        int[] row = rowOf(what);
        if (row == null || !isCell(x, y) || !within(n, 0, what < LAYERS ? SOAKED : SPOT_MOST)) {
            return NONE;
        }
        int at = placeIn(x, y, what);
        int was = row[at];
        row[at] = n;
        return was;
    }

    public int cell(int x, int y, int what) {
        if (noFloor() || !isCell(x, y)) {
            return NONE;
        }
        int[] row = rowOf(what);
        if (row != null) {
            return row[placeIn(x, y, what)];
        }
        int at = WIDTH * y + x;
        if (what == 6) {
            return SOAKED - mud.wet[at];
        }
        if (what == 7) {
            net.survey(mud);
            return net.roomOf[at];
        }
        return NONE;
    }

    public int scratch(int edge, int n) {
        if (noFloor() || !isEdge(edge) || !within(n, 0, NUMBER_MOST)) {
            return NONE;
        }
        int was = mud.scratches[edge];
        mud.scratches[edge] = n;
        return was;
    }

    public int edge(int law, int edge, int what) {
        if (noFloor() || !isEdge(edge)) {
            return -2;
        }
        switch (what) {
            case 0:
                return mud.isTorn(edge) ? 1 : 0;
            case 1:
                return mud.owners[edge];
            case 2:
                return mud.depths[edge];
            case 3:
                return mud.grains[edge];
            case 4:
                return mud.scratches[edge];
            case 5:
                return mud.scars[edge];
            case 6:
            case 7:
                return edgeUnder(lawAt(law), edge, what == 6);
            default:
                return -2;
        }
    }

    public int feed(int a, int b, int c, int d, int e) {
        if (tapeLength + 20 > LONGEST) {
            return NONE;
        }
        putNumber(a);
        putNumber(b);
        putNumber(c);
        putNumber(d);
        putNumber(e);
        return tapeLength;
    }

    public int end(int n) {
        if (!within(n, 0, tapeLength)) {
            return NONE;
        }
        tapeLength = n;
        return n;
    }

    public int law() {
        if (lawCount >= TEXTS) {
            return NONE;
        }
        Rule rule = reader.read(tapeLength, false);
        tapeLength = 0;
        if (rule == null) {
            return -2 - reader.fault;
        }
        laws[lawCount] = rule;
        lawCount++;
        return lawCount - 1;
    }

    public int want() {
        if (wantCount >= TEXTS) {
            return NONE;
        }
        Rule rule = reader.read(tapeLength, true);
        tapeLength = 0;
        if (rule == null) {
            return -2 - reader.fault;
        }
        wants[wantCount] = rule;
        wantCount++;
        return wantCount - 1;
    }

    public int tick(int law, int n) {
        Rule rule = lawAt(law);
        if (noFloor() || rule == null || !within(n, 1, SPAN_MOST) || mud.ticks + n > TICKS_MOST) {
            return NONE;
        }
        weather.take(mud, rule);
        weather.pass(n, WHOLE_PART);
        return mud.ticks;
    }

    public int rain(int law, int n) {
        Rule rule = lawAt(law);
        if (noFloor() || rule == null || !within(n, 1, SOAKED)) {
            return NONE;
        }
        weather.take(mud, rule);
        return weather.pour(n);
    }

    public int tear(int tear, int what) {
        if (!isTear(tear)) {
            return -4;
        }
        Tears tears = mud.tears;
        switch (what) {
            case 0:
                return tears.starts[tear];
            case 1:
                return tears.lengths[tear];
            case 2:
                return tears.tipEnds[2 * tear];
            case 3:
                return tears.tipEnds[2 * tear + 1];
            case 4:
                return tears.since[tear];
            case 5:
                return Math.max(0, tears.lengths[tear] - tears.bends[tear]);
            default:
                return -4;
        }
    }

    public int room(int room, int what) {
        if (noFloor() || !within(room, 0, CELLS - 1)) {
            return NONE;
        }
        net.survey(mud);
        if (net.roomOf[room] != room) {
            return NONE;
        }
        switch (what) {
            case 0:
                return net.sizes[room];
            case 1:
                return net.sidesOf(room);
            case 2:
                return net.atRim[room] ? 1 : 0;
            default:
                return NONE;
        }
    }

    public int count(int what) {
        switch (what) {
            case 13:
                return lawCount;
            case 14:
                return wantCount;
            case 16:
                return tapeLength;
            default:
                return noFloor() ? NONE : countOfFloor(what);
        }
    }

    public int met(int want) {
        Rule rule = wantAt(want);
        if (noFloor() || rule == null) {
            return NONE;
        }
        return isMet(rule, mud) ? 1 : 0;
    }

    public int round() {
        if (noFloor() || notes.rounds >= ROUNDS) {
            return NONE;
        }
        net.survey(mud);
        notes.write(net.figures);
        return notes.rounds;
    }

    public int rounds(int round, int what) {
        if (noFloor() || !within(round, 0, notes.rounds - 1)) {
            return NONE;
        }
        if (within(what, 0, 5)) {
            return notes.figure(round, what);
        }
        int sides = notes.figure(round, 6);
        int rooms = notes.figure(round, 0);
        int common = commonMeasure(sides, rooms);
        if (what == 6) {
            return sides / common;
        }
        return what == 7 ? rooms / common : NONE;
    }

    public int around(int from) {
        if (noFloor() || !within(from, 0, notes.rounds - 1)) {
            return NONE;
        }
        for (int round = Math.max(1, from); round < notes.rounds; round++) {
            if (notes.turnsAt(round)) {
                return round;
            }
        }
        return -2;
    }

    public int older(int one, int other) {
        if (!isTear(one) || !isTear(other) || one == other) {
            return NONE;
        }
        ages.reckon(mud.tears);
        return ages.isSurelyElder(one, other) ? 1 : 0;
    }

    public int order(int what) {
        if (noFloor() || !within(what, 0, 1)) {
            return NONE;
        }
        ages.reckon(mud.tears);
        return what == 0 ? ages.rings(mud.tears.made) : ages.openPairs(mud.tears.made);
    }

    public int rank(int tear) {
        if (!isTear(tear)) {
            return NONE;
        }
        ages.reckon(mud.tears);
        return ages.eldersOf(tear, mud.tears.made);
    }

    public int wide(int part) {
        if (noFloor() || !within(part, 0, 1)) {
            return NONE;
        }
        net.survey(mud);
        if (net.innerRooms == 0) {
            return 0;
        }
        int common = commonMeasure(net.innerCells, net.innerRooms);
        return (part == 0 ? net.innerCells : net.innerRooms) / common;
    }

    public int ahead(int law, int n, int what) {
        Rule rule = lawAt(law);
        if (noFloor() || rule == null || !within(n, 0, SPAN_MOST) || !within(what, 0, 1)) {
            return NONE;
        }
        trial.become(mud);
        weather.take(trial, rule);
        int fresh = weather.pass(n, WHOLE_PART);
        return what == 0 ? trial.torn() : fresh;
    }

    public int half(int law, int n, int edge) {
        Rule rule = lawAt(law);
        if (noFloor() || rule == null || !within(n, 0, SPAN_MOST) || !isEdge(edge)) {
            return NONE;
        }
        trial.become(mud);
        weather.take(trial, rule);
        for (int gone = 0; gone < n; gone++) {
            if (trial.isTorn(edge)) {
                return gone;
            }
            weather.pass(1, WHOLE_PART);
        }
        return trial.isTorn(edge) ? n : -2;
    }

    public int miss(int law, int image) {
        Rule rule = lawAt(law);
        if (rule == null || !isEarlier(image)) {
            return NONE;
        }
        return missFrom(images[image], rule);
    }

    public int likeliest(int image) {
        if (!isEarlier(image)) {
            return NONE;
        }
        int best = -2;
        int leastMiss = EDGES + 1;
        for (int law = 0; law < lawCount; law++) {
            int missed = missFrom(images[image], laws[law]);
            if (missed < leastMiss) {
                best = law;
                leastMiss = missed;
            }
        }
        return best;
    }

    public boolean candidate(int k, int edge, int scratch) {
        if (noFloor() || !within(k, 0, CANDIDATES - 1) || !isEdge(edge) || !within(scratch, 0, NUMBER_MOST)) {
            return false;
        }
        notes.candidateEdges[k] = edge;
        notes.candidateScratches[k] = scratch;
        return true;
    }

    public int lead(int law, int want, int n) {
        Rule rule = lawAt(law);
        Rule wanted = wantAt(want);
        if (noFloor() || rule == null || wanted == null || !within(n, 0, SHORT_SPAN_MOST)) {
            return NONE;
        }
        int told = notes.toldCandidates();
        for (int size = 0; size <= CANDIDATES; size++) {
            for (int set = 0; set < 1 << CANDIDATES; set++) {
                if ((set & ~told) == 0 && Integer.bitCount(set) == size && leadsTo(set, rule, wanted, n)) {
                    return set;
                }
            }
        }
        return -2;
    }

    public int slow(int law, int n) {
        Rule rule = lawAt(law);
        if (noFloor() || rule == null || !within(n, 0, SHORT_SPAN_MOST)) {
            return NONE;
        }
        for (int part = WHOLE_PART; part >= 0; part--) {
            trial.become(mud);
            weather.take(trial, rule);
            if (weather.staysWhole(n, part)) {
                return part;
            }
        }
        return -2;
    }

    public int whole(int law, int n) {
        Rule rule = lawAt(law);
        if (noFloor() || rule == null || !within(n, 0, SHORT_SPAN_MOST)) {
            return NONE;
        }
        for (int layers = 1; layers <= LAYERS; layers++) {
            trial.lay(layers, mud.seed, mud.least, mud.greatest);
            weather.take(trial, rule);
            if (weather.staysWhole(n, WHOLE_PART)) {
                return layers;
            }
        }
        return -2;
    }

    public int much(int law, int m) {
        Rule rule = lawAt(law);
        if (noFloor() || rule == null || !within(m, 1, EDGES)) {
            return NONE;
        }
        weather.take(mud, rule);
        // more rain never heals fewer, so the greatest rain that is too little is found by halves
        int tooLittle = 0;
        for (int step = 512; step > 0; step /= 2) {
            int tried = tooLittle + step;
            if (tried <= SOAKED && weather.wouldHeal(tried) < m) {
                tooLittle = tried;
            }
        }
        return tooLittle < SOAKED ? tooLittle + 1 : -2;
    }

    public int finger(int what) {
        if (noFloor() || !within(what, 0, 1)) {
            return NONE;
        }
        int depths = mud.depthsTogether();
        if (what == 0) {
            return depths;
        }
        return mud.ticks > 0 ? (depths - mud.torn()) * 1000 / mud.ticks : 0;
    }

    public int image(int k) {
        if (noFloor() || !within(k, 0, IMAGES - 1)) {
            return NONE;
        }
        if (images[k] == null || imageNotes[k] == null) {
            images[k] = new Mud();
            imageNotes[k] = new Notes();
        }
        images[k].become(mud);
        imageNotes[k].become(notes);
        return mud.ticks;
    }

    public int back(int k) {
        if (!isImage(k)) {
            return NONE;
        }
        mud.become(images[k]);
        notes.become(imageNotes[k]);
        return mud.ticks;
    }

    private static boolean within(int n, int least, int greatest) {
        return n >= least && n <= greatest;
    }

    private static boolean isCell(int x, int y) {
        return within(x, 0, WIDTH - 1) && within(y, 0, WIDTH - 1);
    }

    private static boolean isEdge(int edge) {
        return within(edge, 0, EDGES - 1);
    }

    /** The greatest common divisor; 1 where there is none, so that it always divides. */
    private static int commonMeasure(int one, int other) {
        int a = one;
        int b = other;
        for (int step = 0; step < 64 && b > 0; step++) {
            int rest = a % b;
            a = b;
            b = rest;
        }
        return Math.max(1, a);
    }

    private boolean noFloor() {
        return mud.layers == 0;
    }

    private boolean isTear(int tear) {
        return within(tear, 0, mud.tears.made - 1);
    }

    private boolean isImage(int k) {
        return within(k, 0, IMAGES - 1) && images[k] != null && imageNotes[k] != null;
    }

    /** Whether an image is of this floor, and not too many ticks before now. */
    private boolean isEarlier(int image) {
        return isImage(image) && images[image].born == mud.born
            && within(mud.ticks - images[image].ticks, 0, SPAN_MOST);
    }

    private Rule lawAt(int law) {
        return within(law, 0, lawCount - 1) ? laws[law] : null;
    }

    private Rule wantAt(int want) {
        return within(want, 0, wantCount - 1) ? wants[want] : null;
    }

    /** The row in which a cell's layer, shade or salt stands; null if there is no such one. */
    private int[] rowOf(int what) {
        if (within(what, 0, mud.layers - 1)) {
            return mud.wet;
        }
        if (noFloor() || !within(what, LAYERS, LAYERS + 1)) {
            return null;
        }
        return what == LAYERS ? mud.shades : mud.salts;
    }

    private static int placeIn(int x, int y, int what) {
        return (what < LAYERS ? CELLS * what : 0) + WIDTH * y + x;
    }

    private int edgeUnder(Rule law, int edge, boolean asksHolds) {
        if (law == null) {
            return -2;
        }
        weather.take(mud, law);
        return asksHolds ? weather.holdsOf(edge) : weather.pullOf(edge);
    }

    private void putNumber(int number) {
        for (int shift = 24; shift >= 0 && tapeLength < LONGEST; shift -= 8) {
            tape[tapeLength] = (byte) (number >> shift);
            tapeLength++;
        }
    }

    private int countOfFloor(int what) {
        if (what == 12) {
            return mud.tears.made;
        }
        if (what == 15) {
            return notes.rounds;
        }
        if (what == 17) {
            return mud.scarred();
        }
        if (!within(what, 0, FIGURES - 1)) {
            return NONE;
        }
        net.survey(mud);
        return net.figures[what];
    }

    private boolean isMet(Rule want, Mud floor) {
        net.survey(floor);
        for (int word = 0; word < FIGURES; word++) {
            reckoner.words[word] = net.figures[word];
        }
        return reckoner.meets(want);
    }

    private int missFrom(Mud image, Rule law) {
        if (image == null || law == null) {
            return NONE;
        }
        trial.become(image);
        weather.take(trial, law);
        weather.pass(mud.ticks - image.ticks, WHOLE_PART);
        int missed = 0;
        for (int edge = 0; edge < EDGES; edge++) {
            if (trial.isTorn(edge) != mud.isTorn(edge)) {
                missed++;
            }
        }
        return missed;
    }

    private boolean leadsTo(int set, Rule law, Rule want, int n) {
        trial.become(mud);
        for (int k = 0; k < CANDIDATES; k++) {
            int edge = notes.candidateEdges[k];
            if ((set >> k & 1) != 0 && isEdge(edge)) {
                trial.scratches[edge] = notes.candidateScratches[k];
            }
        }
        weather.take(trial, law);
        weather.pass(n, WHOLE_PART);
        return isMet(want, trial);
    }

    /**
     * Where cells, edges and nodes lie to one another; it never changes. A stride leads from an edge
     * to the next of its way across it, a place tells which of those in its line it is; the spokes
     * of a node are its edges by the way one goes.
     */
    private static final class Grid {
        final int[] first = new int[EDGES];
        final int[] second = new int[EDGES];
        final int[] fromNode = new int[EDGES];
        final int[] toNode = new int[EDGES];
        final int[] strides = new int[EDGES];
        final int[] places = new int[EDGES];
        final int[] spokes = new int[NODES * WAYS];

        Grid() {
            Arrays.fill(spokes, NONE);
            for (int edge = 0; edge < EDGES; edge++) {
                boolean upright = edge < UPRIGHT;
                int x = upright ? edge % LINE : (edge - UPRIGHT) % WIDTH;
                int y = upright ? edge / LINE : (edge - UPRIGHT) / WIDTH;
                first[edge] = WIDTH * y + x;
                strides[edge] = upright ? 1 : WIDTH;
                places[edge] = upright ? x : y;
                second[edge] = first[edge] + strides[edge];
                fromNode[edge] = upright ? NODE_ROW * y + x + 1 : NODE_ROW * (y + 1) + x;
                toNode[edge] = fromNode[edge] + (upright ? NODE_ROW : 1);
                spokes[WAYS * fromNode[edge] + (upright ? DOWN : RIGHT)] = edge;
                spokes[WAYS * toNode[edge] + (upright ? UP : LEFT)] = edge;
            }
        }

        int otherNode(int edge, int node) {
            return fromNode[edge] == node ? toNode[edge] : fromNode[edge];
        }

        int otherCell(int edge, int cell) {
            return first[edge] == cell ? second[edge] : first[edge];
        }

        static boolean isBorder(int node) {
            int i = node % NODE_ROW;
            int j = node / NODE_ROW;
            return i == 0 || i == WIDTH || j == 0 || j == WIDTH;
        }

        static boolean isRim(int cell) {
            int x = cell % WIDTH;
            int y = cell / WIDTH;
            return x == 0 || x == WIDTH - 1 || y == 0 || y == WIDTH - 1;
        }

        /** The edge on one side of a cell; NONE at the end of the floor. */
        static int beside(int cell, int way) {
            int x = cell % WIDTH;
            int y = cell / WIDTH;
            switch (way) {
                case UP:
                    return y > 0 ? UPRIGHT + cell - WIDTH : NONE;
                case RIGHT:
                    return x < WIDTH - 1 ? LINE * y + x : NONE;
                case DOWN:
                    return y < WIDTH - 1 ? UPRIGHT + cell : NONE;
                default:
                    return x > 0 ? LINE * y + x - 1 : NONE;
            }
        }
    }

    /** All tears of a floor; the two tips of tear t stand at 2 * t and 2 * t + 1. */
    private static final class Tears {
        int made = 0;
        final int[] starts = new int[TEARS];
        final int[] lengths = new int[TEARS];
        final int[] since = new int[TEARS];
        final int[] bends = new int[TEARS];
        final int[] tipEnds = new int[2 * TEARS];
        final int[] tipNodes = new int[2 * TEARS];
        final int[] tipWays = new int[2 * TEARS];

        void become(Tears other) {
            made = other.made;
            System.arraycopy(other.starts, 0, starts, 0, made);
            System.arraycopy(other.lengths, 0, lengths, 0, made);
            System.arraycopy(other.since, 0, since, 0, made);
            System.arraycopy(other.bends, 0, bends, 0, made);
            System.arraycopy(other.tipEnds, 0, tipEnds, 0, 2 * made);
            System.arraycopy(other.tipNodes, 0, tipNodes, 0, 2 * made);
            System.arraycopy(other.tipWays, 0, tipWays, 0, 2 * made);
        }

        /** A new tear, without its edge and tips yet. */
        int open(int edge, int tick) {
            int tear = made;
            starts[tear] = edge;
            lengths[tear] = 0;
            since[tear] = tick;
            bends[tear] = 0;
            made++;
            return tear;
        }

        void setTip(int tip, int node, int way, int ended) {
            tipNodes[tip] = node;
            tipWays[tip] = way;
            tipEnds[tip] = ended;
        }

        void loseEdge(int tear) {
            lengths[tear]--;
            if (lengths[tear] > 0) {
                return;
            }
            for (int tip = 2 * tear; tip <= 2 * tear + 1; tip++) {
                if (tipEnds[tip] == GOES_ON) {
                    tipEnds[tip] = tear;
                }
            }
        }

        int withEdges() {
            int found = 0;
            for (int tear = 0; tear < made; tear++) {
                if (lengths[tear] > 0) {
                    found++;
                }
            }
            return found;
        }
    }

    /** A floor as it is; without layers there is none. */
    private static final class Mud {
        int layers = 0;
        int seed = 0;
        int least = 0;
        int greatest = 0;
        int born = 0;
        int ticks = 0;
        final int[] wet = new int[LAYERS * CELLS];
        final int[] shades = new int[CELLS];
        final int[] salts = new int[CELLS];
        final int[] grains = new int[EDGES];
        final int[] scratches = new int[EDGES];
        final int[] owners = new int[EDGES];
        final int[] depths = new int[EDGES];
        final int[] scars = new int[EDGES];
        final Tears tears = new Tears();

        void lay(int newLayers, int newSeed, int newLeast, int newGreatest) {
            layers = newLayers;
            seed = newSeed;
            least = newLeast;
            greatest = newGreatest;
            ticks = 0;
            Arrays.fill(wet, SOAKED);
            Arrays.fill(shades, 0);
            Arrays.fill(salts, 0);
            Arrays.fill(scratches, 0);
            Arrays.fill(owners, NONE);
            Arrays.fill(depths, 0);
            Arrays.fill(scars, 0);
            tears.made = 0;
            layGrains();
        }

        private void layGrains() {
            long x = seed;
            int span = Math.max(1, greatest - least + 1);
            for (int edge = 0; edge < EDGES; edge++) {
                x = (x * 1103515245L + 12345L) % 2147483648L;
                grains[edge] = least + (int) (x / 65536 % span);
            }
        }

        void become(Mud other) {
            layers = other.layers;
            seed = other.seed;
            least = other.least;
            greatest = other.greatest;
            born = other.born;
            ticks = other.ticks;
            System.arraycopy(other.wet, 0, wet, 0, LAYERS * CELLS);
            System.arraycopy(other.shades, 0, shades, 0, CELLS);
            System.arraycopy(other.salts, 0, salts, 0, CELLS);
            System.arraycopy(other.grains, 0, grains, 0, EDGES);
            System.arraycopy(other.scratches, 0, scratches, 0, EDGES);
            System.arraycopy(other.owners, 0, owners, 0, EDGES);
            System.arraycopy(other.depths, 0, depths, 0, EDGES);
            System.arraycopy(other.scars, 0, scars, 0, EDGES);
            tears.become(other.tears);
        }

        boolean isTorn(int edge) {
            return owners[edge] != NONE;
        }

        int torn() {
            int found = 0;
            for (int edge = 0; edge < EDGES; edge++) {
                if (isTorn(edge)) {
                    found++;
                }
            }
            return found;
        }

        int scarred() {
            int found = 0;
            for (int edge = 0; edge < EDGES; edge++) {
                found += scars[edge];
            }
            return found;
        }

        int depthsTogether() {
            int together = 0;
            for (int edge = 0; edge < EDGES; edge++) {
                together += depths[edge];
            }
            return together;
        }

        void rip(int edge, int tear) {
            owners[edge] = tear;
            depths[edge] = 1;
            scars[edge] = 0;
            tears.lengths[tear]++;
        }

        void close(int edge) {
            int tear = owners[edge];
            owners[edge] = NONE;
            depths[edge] = 0;
            scars[edge] = 1;
            tears.loseEdge(tear);
        }
    }

    /** What was written down beside a floor: its rounds and candidates. */
    private static final class Notes {
        int rounds = 0;
        final int[] lines = new int[ROUNDS * ROUND_ROW];
        final int[] candidateEdges = new int[CANDIDATES];
        final int[] candidateScratches = new int[CANDIDATES];

        Notes() {
            Arrays.fill(candidateEdges, NONE);
        }

        void wipe() {
            rounds = 0;
            Arrays.fill(candidateEdges, NONE);
        }

        void become(Notes other) {
            rounds = other.rounds;
            System.arraycopy(other.lines, 0, lines, 0, rounds * ROUND_ROW);
            System.arraycopy(other.candidateEdges, 0, candidateEdges, 0, CANDIDATES);
            System.arraycopy(other.candidateScratches, 0, candidateScratches, 0, CANDIDATES);
        }

        void write(int[] figures) {
            int at = rounds * ROUND_ROW;
            lines[at] = figures[ROOMS_AT];
            lines[at + 1] = figures[ENDS_AT];
            lines[at + 2] = figures[TURNS_AT];
            lines[at + 3] = figures[TEES_AT];
            lines[at + 4] = figures[CROSSES_AT];
            lines[at + 5] = figures[TORN_AT];
            lines[at + 6] = figures[ALL_SIDES_AT];
            rounds++;
        }

        int figure(int round, int column) {
            return lines[round * ROUND_ROW + column];
        }

        /** Whether meetings of tears and rooms went unlike ways since the round before. */
        boolean turnsAt(int round) {
            int meetings = figure(round, 3) + figure(round, 4);
            int meetingsBefore = figure(round - 1, 3) + figure(round - 1, 4);
            int rooms = Integer.compare(figure(round, 0), figure(round - 1, 0));
            return rooms * Integer.compare(meetings, meetingsBefore) < 0;
        }

        int toldCandidates() {
            int told = 0;
            for (int k = 0; k < CANDIDATES; k++) {
                if (candidateEdges[k] != NONE) {
                    told |= 1 << k;
                }
            }
            return told;
        }
    }

    /**
     * A law or want, read: clause k's sum runs in the code up to middles[k],
     * its test from there up to ends[k]; the next clause begins there.
     */
    private static final class Rule {
        final int[] code;
        final int[] kinds;
        final int[] middles;
        final int[] ends;
        final int[] settings;

        Rule(int[] code, int[] kinds, int[] middles, int[] ends, int[] settings) {
            this.code = code;
            this.kinds = kinds;
            this.middles = middles;
            this.ends = ends;
            this.settings = settings;
        }
    }

    /** Cuts a text into numbers, words and signs, one after the other. */
    private static final class TextCutter {
        int place = 0;
        int sort = AT_END;
        int value = NONE;
        private final byte[] text;
        private int length = 0;
        private int next = 0;

        TextCutter(byte[] text) {
            this.text = text;
        }

        void start(int bytes) {
            length = Math.min(bytes, text.length);
            next = 0;
        }

        /** Goes on to the next piece; behind the last one it stays at the end. */
        void advance() {
            while (next < length && text[next] == ' ') {
                next++;
            }
            place = next;
            value = NONE;
            if (isDigitAt(place)) {
                takeNumber();
            } else if (isLetterAt(place)) {
                takeWord();
            } else {
                takeSign();
            }
        }

        /** Its value is NONE if it has too many digits. */
        private void takeNumber() {
            sort = A_NUMBER;
            int number = 0;
            while (next < length && isDigitAt(next)) {
                if (next - place < DIGITS) {
                    number = 10 * number + text[next] - '0';
                }
                next++;
            }
            value = next - place > DIGITS ? NONE : number;
        }

        /** Its value is NONE if no text has such a word. */
        private void takeWord() {
            sort = A_WORD;
            while (next < length && isLetterAt(next)) {
                next++;
            }
            for (int word = 0; word < VOCABULARY && value == NONE; word++) {
                if (spells(spelling(word))) {
                    value = word;
                }
            }
        }

        private void takeSign() {
            sort = place < length ? A_SIGN : AT_END;
            if (sort == AT_END) {
                return;
            }
            next++;
            value = text[place];
            boolean widens = value == '<' || value == '>';
            if (widens && next < length && text[next] == '=') {
                value += WITH_EQUAL;
                next++;
            }
        }

        private boolean spells(String word) {
            if (next - place != word.length()) {
                return false;
            }
            for (int k = 0; k < word.length(); k++) {
                if (text[place + k] != word.charAt(k)) {
                    return false;
                }
            }
            return true;
        }

        private boolean isDigitAt(int at) {
            return at < length && text[at] >= '0' && text[at] <= '9';
        }

        private boolean isLetterAt(int at) {
            return at < length && text[at] >= 'a' && text[at] <= 'z';
        }

        boolean isSign(int sign) {
            return sort == A_SIGN && value == sign;
        }

        boolean isWord(int word) {
            return sort == A_WORD && value == word;
        }

        private static String spelling(int word) {
            switch (word) {
                case NOTCH: return "notch";
                case HEAL: return "heal";
                case SCAR: return "scar";
                case LET: return "let";
                case MOST: return "most";
                case DEEPEN: return "deepen";
                case DRY: return "dry";
                case TEAR: return "tear";
                case WANT: return "want";
                case NOT_WORD: return "not";
                case IF_WORD: return "if";
                case AND_WORD: return "and";
                case OR_WORD: return "or";
                case FIRST_LAW_WORD + X_WORD: return "x";
                case FIRST_LAW_WORD + Y_WORD: return "y";
                case FIRST_LAW_WORD + WET_WORD: return "wet";
                case FIRST_LAW_WORD + SHADE_WORD: return "shade";
                case FIRST_LAW_WORD + SALT_WORD: return "salt";
                case FIRST_LAW_WORD + WAY_WORD: return "way";
                case TICK_SPELT: return "tick";
                case FIRST_WANT_WORD + ROOMS_AT: return "rooms";
                case FIRST_WANT_WORD + TEES_AT: return "tees";
                case FIRST_WANT_WORD + CROSSES_AT: return "crosses";
                case FIRST_WANT_WORD + TURNS_AT: return "turns";
                case FIRST_WANT_WORD + ENDS_AT: return "ends";
                case FIRST_WANT_WORD + TORN_AT: return "torn";
                case FIRST_WANT_WORD + TEARS_AT: return "tears";
                case FIRST_WANT_WORD + SIDES_AT: return "sides";
                case FIRST_WANT_WORD + LEAST_AT: return "least";
                default: return "greatest";
            }
        }
    }

    /**
     * Reads the tape into a rule, or finds its first fault. It goes along the text once;
     * operators wait in a pile till those that bind no less are behind them.
     */
    private static final class TextReader {
        int fault = 0;
        private final TextCutter cutter;
        private boolean asWant = false;
        private int state = CLAUSE_DUE;
        private int side = SUM_SIDE;
        private int things = 0;
        private final int[] code = new int[LONGEST];
        private int size = 0;
        private final int[] pile = new int[PILE];
        private int piled = 0;
        private int deep = 0;
        private final int[] kinds = new int[CLAUSES];
        private final int[] middles = new int[CLAUSES];
        private final int[] ends = new int[CLAUSES];
        private int clauses = 0;
        private final int[] settings = new int[SETTINGS];

        TextReader(byte[] text) {
            cutter = new TextCutter(text);
        }

        /** The rule in the first so many bytes; null, and its fault is told, if they are none. */
        Rule read(int bytes, boolean readsWant) {
            asWant = readsWant;
            fault = 0;
            state = CLAUSE_DUE;
            things = 0;
            size = 0;
            piled = 0;
            deep = 0;
            clauses = 0;
            Arrays.fill(settings, NONE);
            cutter.start(bytes);
            // each piece has a byte at least, so that the end comes within so many
            for (int piece = 0; piece <= LONGEST && state != ALL_READ; piece++) {
                cutter.advance();
                if (!takePiece()) {
                    fault += 1 + 8 * cutter.place;
                    return null;
                }
            }
            return rule();
        }

        private Rule rule() {
            for (int setting = 0; setting < SETTINGS; setting++) {
                if (settings[setting] == NONE) {
                    settings[setting] = USUAL[setting];
                }
            }
            return new Rule(Arrays.copyOf(code, size), Arrays.copyOf(kinds, clauses),
                Arrays.copyOf(middles, clauses), Arrays.copyOf(ends, clauses), settings.clone());
        }

        private boolean fails(int sort) {
            fault = sort;
            return false;
        }

        private boolean takePiece() {
            switch (state) {
                case CLAUSE_DUE:
                    return takeClause();
                case SETTING_DUE:
                    return takeSetting();
                case FACT_DUE:
                    return takeFact();
                case VALUE_DUE:
                    return takeValue();
                case VALUE_READ:
                    return takeBehindValue();
                default:
                    return takeBehindFact();
            }
        }

        private boolean takeClause() {
            int kind = cutter.sort == A_WORD ? cutter.value : NONE;
            if (!within(kind, asWant ? WANT : 0, asWant ? NOT_WORD : TEAR)) {
                return fails(CAN_NOT_STAND);
            }
            boolean again = kind < SETTINGS && settings[kind] != NONE;
            if (again || clauses >= CLAUSES) {
                return fails(CLAUSE_TOO_MANY);
            }
            kinds[clauses] = kind;
            middles[clauses] = size;
            side = SUM_SIDE;
            state = kind < SETTINGS ? SETTING_DUE : asWant ? FACT_DUE : VALUE_DUE;
            return true;
        }

        private boolean takeSetting() {
            if (cutter.sort != A_NUMBER) {
                return fails(CAN_NOT_STAND);
            }
            int setting = kinds[clauses];
            if (!within(cutter.value, SMALLEST[setting], LARGEST[setting])) {
                return fails(BAD_NUMBER);
            }
            settings[setting] = cutter.value;
            state = FACT_READ;
            return true;
        }

        private boolean takeFact() {
            boolean opens = cutter.isSign('[');
            if (!opens && !cutter.isWord(NOT_WORD)) {
                side = LEFT_SIDE;
                return takeValue();
            }
            if (deep >= DEEPEST) {
                return fails(TOO_DEEP);
            }
            deep++;
            return pileUp(opens ? BRACKET : NOT);
        }

        private boolean takeValue() {
            boolean isNumber = cutter.sort == A_NUMBER;
            int operand = isNumber ? cutter.value : wordHere();
            if (operand == NONE) {
                return fails(isNumber ? BAD_NUMBER : CAN_NOT_STAND);
            }
            // asked last: of two faults at one place the lesser one counts
            if (things >= THINGS) {
                return fails(TOO_MANY);
            }
            things++;
            put(operand << SIGN_BITS | (isNumber ? NUMBER : WORD));
            state = VALUE_READ;
            return true;
        }

        /** The place of the word here among those that a law or a want may name; NONE if it is none. */
        private int wordHere() {
            int word = cutter.sort == A_WORD ? cutter.value : NONE;
            if (!asWant) {
                return within(word, FIRST_LAW_WORD, TICK_SPELT) ? word - FIRST_LAW_WORD : NONE;
            }
            if (word == TICK_SPELT) {
                return TICKS_AT;
            }
            return within(word, FIRST_WANT_WORD, VOCABULARY - 1) ? word - FIRST_WANT_WORD : NONE;
        }

        private boolean takeBehindValue() {
            int sign = signHere();
            if (sign == PLUS || sign == MINUS || sign == TIMES || sign == BY) {
                state = VALUE_DUE;
                unpile(RANKS[sign]);
                return pileUp(sign);
            }
            if (side == RIGHT_SIDE) {
                return takeBehindFact();
            }
            if (side == LEFT_SIDE) {
                return takeComparison(sign);
            }
            if (!cutter.isWord(IF_WORD)) {
                return takeClauseEnd(true);
            }
            unpile(1);
            middles[clauses] = size;
            state = FACT_DUE;
            return true;
        }

        private boolean takeComparison(int sign) {
            if (sign == NONE) {
                return fails(CAN_NOT_STAND);
            }
            if (things >= THINGS) {
                return fails(TOO_MANY);
            }
            things++;
            side = RIGHT_SIDE;
            state = VALUE_DUE;
            unpile(RANKS[sign]);
            return pileUp(sign);
        }

        private boolean takeBehindFact() {
            boolean joins = cutter.isWord(AND_WORD) || cutter.isWord(OR_WORD);
            if (joins && kinds[clauses] >= SETTINGS) {
                int sign = cutter.isWord(AND_WORD) ? AND : OR;
                state = FACT_DUE;
                unpile(RANKS[sign]);
                return pileUp(sign);
            }
            if (!cutter.isSign(']')) {
                return takeClauseEnd(false);
            }
            unpile(1);
            if (piled == 0) {
                return fails(CAN_NOT_STAND);
            }
            piled--;
            deep--;
            state = FACT_READ;
            return true;
        }

        private boolean takeClauseEnd(boolean bare) {
            boolean atEnd = cutter.sort == AT_END;
            unpile(1);
            if (piled > 0 || !atEnd && !cutter.isSign(';')) {
                return fails(CAN_NOT_STAND);
            }
            if (bare) {
                middles[clauses] = size;
            }
            ends[clauses] = size;
            clauses++;
            state = atEnd ? ALL_READ : CLAUSE_DUE;
            return true;
        }

        private int signHere() {
            if (cutter.sort != A_SIGN) {
                return NONE;
            }
            switch (cutter.value) {
                case '+': return PLUS;
                case '-': return MINUS;
                case '*': return TIMES;
                case '/': return BY;
                case '<': return BELOW;
                case '<' + WITH_EQUAL: return AT_MOST;
                case '=': return EQUAL;
                case '>' + WITH_EQUAL: return AT_LEAST;
                case '>': return ABOVE;
                default: return NONE;
            }
        }

        private boolean pileUp(int sign) {
            if (piled < pile.length) {
                pile[piled] = sign;
                piled++;
            }
            return true;
        }

        /** Puts down what waits on top of the pile and binds no less than a rank; brackets have none. */
        private void unpile(int rank) {
            while (piled > 0 && RANKS[pile[piled - 1]] >= rank) {
                piled--;
                if (pile[piled] == NOT) {
                    deep--;
                }
                put(pile[piled]);
            }
        }

        private void put(int item) {
            if (size < code.length) {
                code[size] = item;
                size++;
            }
        }
    }

    /** Reckons a rule's sums and tests, which stand in its code operands first. */
    private static final class Reckoner {
        final long[] words = new long[FIGURES];
        private final long[] stack = new long[THINGS];

        /** The sum of the first clause of a kind whose test holds; 0 without one. */
        long sumOf(Rule rule, int kind) {
            int from = 0;
            for (int clause = 0; clause < rule.kinds.length; clause++) {
                int middle = rule.middles[clause];
                int to = rule.ends[clause];
                if (rule.kinds[clause] == kind && (middle == to || result(rule.code, middle, to) != 0)) {
                    return result(rule.code, from, middle);
                }
                from = to;
            }
            return 0;
        }

        boolean meets(Rule want) {
            for (int clause = 0; clause < want.kinds.length; clause++) {
                boolean holds = result(want.code, want.middles[clause], want.ends[clause]) != 0;
                if (holds != (want.kinds[clause] == WANT)) {
                    return false;
                }
            }
            return true;
        }

        private long result(int[] code, int from, int to) {
            int top = 0;
            for (int k = from; k < to && k < code.length; k++) {
                int sign = code[k] & SIGN_MASK;
                int operand = code[k] >> SIGN_BITS;
                if (sign == NUMBER && top < stack.length) {
                    stack[top] = operand;
                    top++;
                } else if (sign == WORD && top < stack.length && operand < words.length) {
                    stack[top] = words[operand];
                    top++;
                } else if (sign == NOT && top >= 1) {
                    stack[top - 1] = 1 - stack[top - 1];
                } else if (top >= 2) {
                    top--;
                    stack[top - 1] = joined(sign, stack[top - 1], stack[top]);
                }
            }
            return top > 0 ? stack[top - 1] : 0;
        }

        private static long joined(int sign, long a, long b) {
            switch (sign) {
                case PLUS:
                    return a + b;
                case MINUS:
                    return a - b;
                case TIMES:
                    return a * b;
                case BY:
                    return b == 0 ? 0 : a / b;
                case BELOW:
                    return a < b ? 1 : 0;
                case AT_MOST:
                    return a <= b ? 1 : 0;
                case EQUAL:
                    return a == b ? 1 : 0;
                case AT_LEAST:
                    return a >= b ? 1 : 0;
                case ABOVE:
                    return a > b ? 1 : 0;
                case AND:
                    return a & b;
                default:
                    return a | b;
            }
        }
    }

    /** Lets ticks go by over a floor, and rain. */
    private static final class Weather {
        private final Grid grid;
        private final Reckoner reckoner;
        private final int[] pulls = new int[EDGES];
        private final int[] holds = new int[EDGES];
        private Mud mud;
        private Rule law = new Rule(new int[0], new int[0], new int[0], new int[0], USUAL.clone());
        private int fresh = 0;

        Weather(Grid grid, Reckoner reckoner, Mud mud) {
            this.grid = grid;
            this.reckoner = reckoner;
            this.mud = mud;
        }

        void take(Mud floor, Rule rule) {
            mud = floor;
            law = rule;
            fresh = 0;
        }

        /** So many ticks, with a part in hundredths of their drying; how many edges they tear. */
        int pass(int n, int part) {
            for (int gone = 0; gone < n; gone++) {
                dryTop(part);
                seep();
                measure();
                for (int tip = 0; tip < 2 * mud.tears.made; tip++) {
                    goOn(tip);
                }
                breakAnew();
                sink();
                mud.ticks = Math.min(TICKS_MOST, mud.ticks + 1);
            }
            return fresh;
        }

        /** Whether so many ticks tear no edge. */
        boolean staysWhole(int n, int part) {
            for (int gone = 0; gone < n; gone++) {
                if (pass(1, part) > 0) {
                    return false;
                }
            }
            return true;
        }

        private void dryTop(int part) {
            for (int cell = 0; cell < CELLS; cell++) {
                int wet = mud.wet[cell];
                if (wet > 0) {
                    say(cell, 0, wet, mud.shades[cell], mud.salts[cell]);
                    int dried = (int) Math.max(0, Math.min(wet, reckoner.sumOf(law, DRY)));
                    mud.wet[cell] = wet - dried * part / WHOLE_PART;
                }
            }
        }

        private void say(int cell, int way, int wet, int shade, int salt) {
            reckoner.words[X_WORD] = cell % WIDTH;
            reckoner.words[Y_WORD] = cell / WIDTH;
            reckoner.words[WAY_WORD] = way;
            reckoner.words[WET_WORD] = wet;
            reckoner.words[SHADE_WORD] = shade;
            reckoner.words[SALT_WORD] = salt;
            reckoner.words[TICK_WORD] = mud.ticks;
        }

        private void seep() {
            for (int at = 0; at < CELLS * (mud.layers - 1); at++) {
                int rising = (mud.wet[at + CELLS] - mud.wet[at]) / 8;
                mud.wet[at] += rising;
                mud.wet[at + CELLS] -= rising;
            }
        }

        private void measure() {
            for (int edge = 0; edge < EDGES; edge++) {
                if (!mud.isTorn(edge)) {
                    pulls[edge] = pullOf(edge);
                    holds[edge] = holdsOf(edge);
                }
            }
        }

        int holdsOf(int edge) {
            int one = grid.first[edge];
            int other = grid.second[edge];
            say(one, edge < UPRIGHT ? 0 : 1, mud.wet[one] + mud.wet[other],
                mud.shades[one] + mud.shades[other], mud.salts[one] + mud.salts[other]);
            long sum = Math.max(-NUMBER_MOST, Math.min(NUMBER_MOST, reckoner.sumOf(law, TEAR)));
            int held = mud.grains[edge] - mud.scratches[edge] + (int) sum;
            if (mud.scars[edge] == 1) {
                held = Math.floorDiv(held * law.settings[SCAR], 1000);
            }
            return Math.max(1, held);
        }

        int pullOf(int edge) {
            int dry = 2 * SOAKED - mud.wet[grid.first[edge]] - mud.wet[grid.second[edge]];
            int let = Math.max(1, law.settings[LET]);
            int stride = grid.strides[edge];
            int place = grid.places[edge];
            int before = 1;
            while (before < let && before <= place && !mud.isTorn(edge - before * stride)) {
                before++;
            }
            int behind = 1;
            while (behind < let && place + behind < LINE && !mud.isTorn(edge + behind * stride)) {
                behind++;
            }
            return dry * (before + behind) / (2 * let);
        }

        private void goOn(int tip) {
            Tears tears = mud.tears;
            if (tears.tipEnds[tip] != GOES_ON) {
                return;
            }
            int node = tears.tipNodes[tip];
            int along = tears.tipWays[tip];
            int best = NONE;
            int bestWay = along;
            for (int turn = 0; turn < STRAIGHT_LEFT_RIGHT.length; turn++) {
                int way = (along + STRAIGHT_LEFT_RIGHT[turn]) % WAYS;
                int edge = grid.spokes[WAYS * node + way];
                if (mayFollow(edge) && (best == NONE || pulls[edge] > pulls[best])) {
                    best = edge;
                    bestWay = way;
                }
            }
            if (best == NONE) {
                return;
            }
            rip(best, tip / 2);
            if (bestWay != along) {
                tears.bends[tip / 2]++;
            }
            int next = grid.otherNode(best, node);
            tears.setTip(tip, next, bestWay, endAt(next, best));
        }

        private boolean mayFollow(int edge) {
            return edge != NONE && !mud.isTorn(edge) && pulls[edge] * 1000 >= holds[edge] * law.settings[NOTCH];
        }

        private void rip(int edge, int tear) {
            mud.rip(edge, tear);
            fresh++;
            int start = edge - grid.places[edge] * grid.strides[edge];
            for (int k = 0; k < LINE; k++) {
                int inLine = start + k * grid.strides[edge];
                if (!mud.isTorn(inLine)) {
                    pulls[inLine] = pullOf(inLine);
                }
            }
        }

        /** Where a tip ends that comes to a node by an edge: the border, a tear, or nowhere yet. */
        private int endAt(int node, int by) {
            if (Grid.isBorder(node)) {
                return IN_BORDER;
            }
            int least = EDGES;
            for (int way = 0; way < WAYS; way++) {
                int edge = grid.spokes[WAYS * node + way];
                if (edge != NONE && edge != by && edge < least && mud.isTorn(edge)) {
                    least = edge;
                }
            }
            return least < EDGES ? mud.owners[least] : GOES_ON;
        }

        private void breakAnew() {
            Tears tears = mud.tears;
            for (int made = 0; made < law.settings[MOST] && tears.made < TEARS; made++) {
                int edge = mostPulled();
                if (edge == NONE) {
                    return;
                }
                int tear = tears.open(edge, mud.ticks);
                rip(edge, tear);
                int from = grid.fromNode[edge];
                int to = grid.toNode[edge];
                tears.setTip(2 * tear, from, edge < UPRIGHT ? UP : LEFT, endAt(from, edge));
                tears.setTip(2 * tear + 1, to, edge < UPRIGHT ? DOWN : RIGHT, endAt(to, edge));
            }
        }

        /** The edge that is pulled most above what it holds; NONE if none is. */
        private int mostPulled() {
            int best = NONE;
            int most = 0;
            for (int edge = 0; edge < EDGES; edge++) {
                if (!mud.isTorn(edge) && pulls[edge] - holds[edge] > most) {
                    best = edge;
                    most = pulls[edge] - holds[edge];
                }
            }
            return best;
        }

        private void sink() {
            for (int edge = 0; edge < EDGES; edge++) {
                int depth = mud.depths[edge];
                if (depth >= 1 && depth < mud.layers) {
                    int below = CELLS * depth;
                    int wet = mud.wet[below + grid.first[edge]] + mud.wet[below + grid.second[edge]];
                    if (wet <= 2 * law.settings[DEEPEN]) {
                        mud.depths[edge]++;
                    }
                }
            }
        }

        /** Rain; how many edges heal. */
        int pour(int n) {
            for (int cell = 0; cell < CELLS; cell++) {
                mud.wet[cell] = Math.min(SOAKED, mud.wet[cell] + n);
            }
            int healed = 0;
            for (int edge = 0; edge < EDGES; edge++) {
                if (heals(edge, 0)) {
                    mud.close(edge);
                    healed++;
                }
            }
            return healed;
        }

        int wouldHeal(int n) {
            int healed = 0;
            for (int edge = 0; edge < EDGES; edge++) {
                if (heals(edge, n)) {
                    healed++;
                }
            }
            return healed;
        }

        private boolean heals(int edge, int n) {
            int least = Math.min(mud.wet[grid.first[edge]], mud.wet[grid.second[edge]]);
            return mud.isTorn(edge) && least + n >= law.settings[HEAL];
        }
    }

    /** Finds the rooms of a floor, and how its torn edges meet. */
    private static final class Net {
        final int[] roomOf = new int[CELLS];
        final int[] sizes = new int[CELLS];
        final boolean[] atRim = new boolean[CELLS];
        final int[] figures = new int[FIGURES];
        int innerRooms = 0;
        int innerCells = 0;
        private final Grid grid;
        private final long[] near = new long[2 * CELLS];
        private final int[] queue = new int[CELLS];

        Net(Grid grid) {
            this.grid = grid;
        }

        void survey(Mud mud) {
            Arrays.fill(figures, 0);
            Arrays.fill(roomOf, NONE);
            Arrays.fill(near, 0);
            for (int cell = 0; cell < CELLS; cell++) {
                if (roomOf[cell] == NONE) {
                    fillRoom(mud, cell);
                }
            }
            findNeighbours(mud);
            tallyRooms();
            tallyNodes(mud);
            figures[TORN_AT] = mud.torn();
            figures[TEARS_AT] = mud.tears.withEdges();
            figures[TICKS_AT] = mud.ticks;
        }

        private void fillRoom(Mud mud, int room) {
            atRim[room] = false;
            roomOf[room] = room;
            queue[0] = room;
            int found = 1;
            for (int k = 0; k < found && k < CELLS; k++) {
                int cell = queue[k];
                atRim[room] |= Grid.isRim(cell);
                for (int way = 0; way < WAYS; way++) {
                    int edge = Grid.beside(cell, way);
                    int other = edge == NONE || mud.isTorn(edge) ? cell : grid.otherCell(edge, cell);
                    if (roomOf[other] == NONE && found < CELLS) {
                        roomOf[other] = room;
                        queue[found] = other;
                        found++;
                    }
                }
            }
            sizes[room] = found;
        }

        private void findNeighbours(Mud mud) {
            for (int edge = 0; edge < EDGES; edge++) {
                int one = roomOf[grid.first[edge]];
                int other = roomOf[grid.second[edge]];
                if (one != other && mud.isTorn(edge)) {
                    near[2 * one + other / 64] |= 1L << other % 64;
                    near[2 * other + one / 64] |= 1L << one % 64;
                }
            }
        }

        int sidesOf(int room) {
            int others = Long.bitCount(near[2 * room]) + Long.bitCount(near[2 * room + 1]);
            return atRim[room] ? others + 1 : others;
        }

        private void tallyRooms() {
            innerRooms = 0;
            innerCells = 0;
            figures[LEAST_AT] = CELLS;
            for (int room = 0; room < CELLS; room++) {
                if (roomOf[room] == room) {
                    figures[ROOMS_AT]++;
                    figures[ALL_SIDES_AT] += sidesOf(room);
                    figures[SIDES_AT] = Math.max(figures[SIDES_AT], sidesOf(room));
                    figures[LEAST_AT] = Math.min(figures[LEAST_AT], sizes[room]);
                    figures[GREATEST_AT] = Math.max(figures[GREATEST_AT], sizes[room]);
                    innerRooms += atRim[room] ? 0 : 1;
                    innerCells += atRim[room] ? 0 : sizes[room];
                }
            }
        }

        private void tallyNodes(Mud mud) {
            for (int node = 0; node < NODES; node++) {
                if (!Grid.isBorder(node)) {
                    int upright = tornAt(mud, node, UP) + tornAt(mud, node, DOWN);
                    int level = tornAt(mud, node, LEFT) + tornAt(mud, node, RIGHT);
                    int kind = kindOf(upright, level);
                    if (kind != NONE) {
                        figures[kind]++;
                    }
                }
            }
        }

        private int tornAt(Mud mud, int node, int way) {
            int edge = grid.spokes[WAYS * node + way];
            return edge != NONE && mud.isTorn(edge) ? 1 : 0;
        }

        private static int kindOf(int upright, int level) {
            switch (upright + level) {
                case 1:
                    return ENDS_AT;
                case 2:
                    return upright == 1 ? TURNS_AT : NONE;
                case 3:
                    return TEES_AT;
                case 4:
                    return CROSSES_AT;
                default:
                    return NONE;
            }
        }
    }

    /** Which tears are older than which, by whose tips ended in whom; four longs of bits a tear. */
    private static final class Ages {
        private final long[] elders = new long[TEAR_WORDS * TEARS];

        void reckon(Tears tears) {
            Arrays.fill(elders, 0);
            boolean grows = true;
            // each time round but the last some tear gets an elder more, by a way one longer
            for (int times = 0; times <= TEARS && grows; times++) {
                grows = false;
                for (int tip = 0; tip < 2 * tears.made; tip++) {
                    int elder = tears.tipEnds[tip];
                    if (elder >= 0 && elder != tip / 2) {
                        grows |= learn(tip / 2, elder);
                    }
                }
            }
        }

        /** A tear's elders are those of an elder, and that one; whether some were not known. */
        private boolean learn(int tear, int elder) {
            boolean grows = false;
            for (int k = 0; k < TEAR_WORDS; k++) {
                long more = elders[TEAR_WORDS * elder + k];
                if (elder / 64 == k) {
                    more |= 1L << elder % 64;
                }
                long known = elders[TEAR_WORDS * tear + k];
                elders[TEAR_WORDS * tear + k] = known | more;
                grows |= (known | more) != known;
            }
            return grows;
        }

        private boolean isElder(int one, int other) {
            return (elders[TEAR_WORDS * other + one / 64] >> one % 64 & 1) != 0;
        }

        boolean isSurelyElder(int one, int other) {
            return isElder(one, other) && !isElder(other, one);
        }

        int rings(int made) {
            int found = 0;
            for (int tear = 0; tear < made; tear++) {
                if (isElder(tear, tear)) {
                    found++;
                }
            }
            return found;
        }

        int openPairs(int made) {
            int found = 0;
            for (int one = 0; one < made; one++) {
                for (int other = 0; other < one; other++) {
                    if (isElder(one, other) == isElder(other, one)) {
                        found++;
                    }
                }
            }
            return found;
        }

        int eldersOf(int tear, int made) {
            int found = 0;
            for (int one = 0; one < made; one++) {
                if (isSurelyElder(one, tear)) {
                    found++;
                }
            }
            return found;
        }
    }
}
