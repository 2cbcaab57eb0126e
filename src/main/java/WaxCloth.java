/**
 * Batik: squares of cloth, waxed by stencils, dyed in baths, boiled and rinsed,
 * with what can be foretold of them. See README.md and the document's promises.
 *
 * Every row is made when the object is made and used again by all calls.
 */
public final class WaxCloth {
    public static final int BAD = -1, NOT = -2, FULL = -3, NONE = -4, NULL = -11, CAST = -12, INDEX = -13, SIZE = -14;

    private static final int ACCEPTED = 0;
    private static final int FAULT_BASE = -100;
    private static final int IMAGES = 2;
    private static final int SHEETS = 4;
    private static final int MOST_DOINGS = 9999;
    private static final int MOST_PLANNED = 4;
    private static final int MOST_BATHS = 5;
    private static final int TENTHS = 10;
    private static final int MOST_DRAWS = 60;
    private static final int MOST_SEED = 999999;
    private static final int MOST_AHEAD = 20;
    private static final int MOST_TRIPLES = 7;
    private static final int TRIPLE = 3;

    private final Tape tape;
    private final Reader reader;
    private final Cloth now;
    private final Past past;
    private final Cloth[] kept;
    private final Sheet[] shelf;
    private final Planner planner;
    private final Baths baths;
    private final Chances chances;
    private final Rounds rounds;
    private final int[] doingRow;

    public WaxCloth() {
        tape = new Tape();
        reader = new Reader(tape);
        now = new Cloth();
        past = new Past();
        kept = new Cloth[IMAGES];
        for (int k = 0; k < IMAGES; k++) {
            kept[k] = new Cloth();
        }
        shelf = new Sheet[SHEETS];
        for (int s = 0; s < SHEETS; s++) {
            shelf[s] = new Sheet();
        }
        planner = new Planner();
        baths = new Baths();
        chances = new Chances();
        rounds = new Rounds();
        doingRow = new int[MOST_AHEAD];
    }

    // ---- 1 what is told

    public int feed(int letter) {
        if (letter < 0 || letter > 255) {
            return BAD;
        }
        return tape.put(letter) ? tape.length : FULL;
    }

    public int cloth() {
        boolean read = reader.read();
        tape.length = 0;
        if (!read) {
            return FAULT_BASE - reader.place;
        }
        now.become(reader.result);
        past.forget();
        return now.squares;
    }

    public int square(int square, int what) {
        if (!now.hasSquare(square)) {
            return BAD;
        }
        int state = now.states[square];
        switch (what) {
            case 0: return now.kindOf[square];
            case 1: return now.wished[square];
            case 2: return State.waxIn(state);
            case 3: return State.hueOf(state);
            case 4: return State.darkness(state);
            case 5: return now.isRight(square, state) ? 1 : 0;
            case 6:
            case 7:
            case 8: return State.amountOf(state, what - 6);
            default: return BAD;
        }
    }

    public int as(int square, int kind) {
        if (!now.hasSquare(square) || kind < Kind.STUFF || kind > Kind.FELT) {
            return BAD;
        }
        return Kind.isUnder(now.kindOf[square], kind) ? square : CAST;
    }

    public int dye(int dye, int colour) {
        if (!now.hasDye(dye) || !State.isColour(colour)) {
            return BAD;
        }
        return now.amountInDye(dye, colour);
    }

    public int stencil(int stencil) {
        return now.hasStencil(stencil) ? now.stencilSets[stencil] : BAD;
    }

    public int takes(int square, int dye, int colour) {
        if (!now.hasSquare(square) || !now.hasDye(dye) || !State.isColour(colour)) {
            return BAD;
        }
        int state = now.states[square];
        return State.waxIn(state) > 0 ? 0 : now.gain(square, state, dye, colour);
    }

    // ---- 2 doings

    public int does(int doing) {
        if (!now.hasDoing(doing)) {
            return BAD;
        }
        if (now.doings >= MOST_DOINGS) {
            return FULL;
        }
        past.keep(now.states);
        now.apply(doing, now.states, now.states);
        now.doings++;
        return now.rightSet(now.states);
    }

    public int undo() {
        if (!past.takeBack(now.states)) {
            return NONE;
        }
        now.doings--;
        return past.held;
    }

    public int wish(int square, int hue) {
        if (!now.hasSquare(square) || hue < 0 || hue > State.ALL_COLOURS) {
            return BAD;
        }
        int before = now.wished[square];
        now.wished[square] = hue;
        return before;
    }

    public int image(int k) {
        if (k < 0 || k >= IMAGES) {
            return BAD;
        }
        if (!now.stands()) {
            return NOT;
        }
        kept[k].become(now);
        return now.doings;
    }

    public int restore(int k) {
        if (k < 0 || k >= IMAGES) {
            return BAD;
        }
        if (!kept[k].stands()) {
            return NOT;
        }
        now.become(kept[k]);
        past.forget();
        return now.doings;
    }

    // ---- 3 foretold

    public int plan(int n, int k) {
        if (n < 0 || n > MOST_PLANNED || k < -2) {
            return BAD;
        }
        if (!now.stands()) {
            return NOT;
        }
        planner.search(now, n);
        if (k == -2) {
            return planner.bestRight;
        }
        if (k == -1) {
            return planner.bestLength;
        }
        return k < planner.bestLength ? planner.best[k] : NONE;
    }

    public int rows(int square, int red, int yellow, int blue, int n, int k) {
        if (!now.hasSquare(square) || n < 0 || n > MOST_BATHS || k < -1) {
            return BAD;
        }
        if (!State.isAmount(red) || !State.isAmount(yellow) || !State.isAmount(blue)) {
            return BAD;
        }
        baths.walk(now, square, n, State.ofShade(red, yellow, blue));
        if (k == -1) {
            return baths.found;
        }
        return baths.found > 0 && k < n ? baths.first[k] : NONE;
    }

    public int shades(int square, int n) {
        if (!now.hasSquare(square) || n < 0 || n > MOST_BATHS) {
            return BAD;
        }
        baths.walk(now, square, n, State.WHITE);
        return baths.unlike;
    }

    public int cracks(int dye, int right, int q, int what) {
        if (!now.hasDye(dye) || right < 0 || right > Cloth.MOST_SQUARES) {
            return BAD;
        }
        if (q < 0 || q > TENTHS || what < 0 || what > 1) {
            return BAD;
        }
        chances.crack(now, dye, right, q);
        return what == 0 ? chances.above : chances.below;
    }

    public int decades(int n, int seed, int what) {
        if (n < 0 || n > MOST_DRAWS || seed < 1 || seed > MOST_SEED || what < 0 || what > 1) {
            return BAD;
        }
        if (!now.stands()) {
            return NOT;
        }
        chances.draw(now, n, seed);
        return what == 0 ? chances.dark : chances.rights;
    }

    // ---- 4 sheets

    public int sheet(int sheet, int lane, int n) {
        if (!isSheet(sheet) || !Sheet.isLane(lane) || n > Sheet.MOST_ITEMS) {
            return BAD;
        }
        if (n < 0) {
            return SIZE;
        }
        shelf[sheet].begin(lane, n);
        return n;
    }

    public int drop(int sheet) {
        if (!isSheet(sheet)) {
            return BAD;
        }
        if (shelf[sheet].isNothing()) {
            return NULL;
        }
        return shelf[sheet].end();
    }

    public long item(int sheet, int lane, int i, long v) {
        if (!isSheet(sheet) || !Sheet.isLane(lane)) {
            return BAD;
        }
        int refused = shelf[sheet].refusal(lane, i, 1);
        if (refused != ACCEPTED) {
            return refused;
        }
        return shelf[sheet].put(i, v);
    }

    public int copy(int from, int i, int to, int j, int n) {
        if (!isSheet(from) || !isSheet(to)) {
            return BAD;
        }
        Sheet source = shelf[from];
        Sheet target = shelf[to];
        if (source.isNothing() || target.isNothing()) {
            return NULL;
        }
        if (source.lane != target.lane) {
            return CAST;
        }
        if (!source.holds(i, n) || !target.holds(j, n)) {
            return INDEX;
        }
        System.arraycopy(source.items, i, target.items, j, n);
        return n;
    }

    public int log(int sheet, int lane, int i) {
        if (!now.stands() || !isSheet(sheet) || !Sheet.isLane(lane)) {
            return BAD;
        }
        int refused = shelf[sheet].refusal(lane, i, now.squares);
        if (refused != ACCEPTED) {
            return refused;
        }
        for (int s = 0; s < now.squares; s++) {
            shelf[sheet].put(i + s, State.hueOf(now.states[s]));
        }
        return now.squares;
    }

    public int ahead(int square, int sheet, int lane, int i, int n, int what) {
        if (!now.hasSquare(square) || n < 0 || what < 0 || what > 2) {
            return BAD;
        }
        int refused = takeDoings(sheet, lane, i, n);
        if (refused != ACCEPTED) {
            return refused;
        }
        int state = now.afterRow(square, now.states[square], doingRow, n);
        switch (what) {
            case 0: return State.hueOf(state);
            case 1: return State.darkness(state);
            default: return State.waxIn(state);
        }
    }

    public int round(int sheet, int lane, int i, int n, int what) {
        if (!now.stands() || n < 1 || what < 0 || what > 1) {
            return BAD;
        }
        int refused = takeDoings(sheet, lane, i, n);
        if (refused != ACCEPTED) {
            return refused;
        }
        rounds.measure(now, doingRow, n);
        return what == 0 ? rounds.lead : rounds.lap;
    }

    public int kinds(int sheet, int lane, int i, int n, int what) {
        if (!isSheet(sheet) || !Sheet.isLane(lane) || n < 1 || n > MOST_TRIPLES) {
            return BAD;
        }
        if (what < -1 || what > State.MOST_AMOUNT) {
            return BAD;
        }
        int refused = shelf[sheet].refusal(lane, i, n * TRIPLE);
        if (refused != ACCEPTED) {
            return refused;
        }
        if (!areTriples(shelf[sheet], i, n)) {
            return NOT;
        }
        int possible = kindsByTriples(shelf[sheet], i, n);
        if (what == -1) {
            return possible;
        }
        return possible == 0 ? NONE : Kind.bestTry(possible, what);
    }

    public int wishes(int sheet, int lane, int i) {
        if (!now.stands() || !isSheet(sheet) || !Sheet.isLane(lane)) {
            return BAD;
        }
        int refused = shelf[sheet].refusal(lane, i, now.squares);
        if (refused != ACCEPTED) {
            return refused;
        }
        int set = 0;
        for (int s = 0; s < now.squares; s++) {
            if (shelf[sheet].items[i + s] == State.hueOf(now.states[s])) {
                set |= 1 << s;
            }
        }
        return set;
    }

    public int count(int what) {
        switch (what) {
            case 0: return now.squares;
            case 1: return now.dyes;
            case 2: return now.stencils;
            case 3: return now.doings;
            case 4: return now.rightSet(now.states);
            case 5: return now.waxedSet();
            case 6: return now.darknessOf(now.states);
            case 7: return past.held;
            case 8: return tape.length;
            default: return BAD;
        }
    }

    // ---- what several calls share

    private static boolean isSheet(int sheet) {
        return sheet >= 0 && sheet < SHEETS;
    }

    /** Takes n items of a SHEET into doingRow, or tells why they can't be: ACCEPTED, or the refusal. */
    private int takeDoings(int sheet, int lane, int i, int n) {
        if (!isSheet(sheet) || !Sheet.isLane(lane) || n > MOST_AHEAD) {
            return BAD;
        }
        int refused = shelf[sheet].refusal(lane, i, n);
        if (refused != ACCEPTED) {
            return refused;
        }
        for (int d = 0; d < n; d++) {
            long doing = shelf[sheet].items[i + d];
            if (!now.hasDoing(doing)) {
                return NOT;
            }
            doingRow[d] = (int) doing;
        }
        return ACCEPTED;
    }

    private static boolean areTriples(Sheet sheet, int i, int n) {
        for (int t = 0; t < n; t++) {
            long had = sheet.items[i + t * TRIPLE];
            long bath = sheet.items[i + t * TRIPLE + 1];
            if (had < 0 || had > State.MOST_AMOUNT || bath < 0 || bath > Kind.MOST_IN_BATH) {
                return false;
            }
        }
        return true;
    }

    private static int kindsByTriples(Sheet sheet, int i, int n) {
        int possible = Kind.ALL;
        for (int t = 0; t < n; t++) {
            int at = i + t * TRIPLE;
            possible = Kind.thatTake(possible, (int) sheet.items[at], (int) sheet.items[at + 1], sheet.items[at + 2]);
        }
        return possible;
    }

    /** The KINDS, by their numbers, and what each of them does in a bath. */
    private static final class Kind {
        static final int STUFF = 0, COTTON = 1, LINEN = 2, SILK = 3, WOOL = 4, FELT = 5;
        static final int ALL = 62;
        static final int MOST_IN_BATH = 3;
        private static final int MOST_TAKEN = 4;
        private static final int LINEN_AT_MOST = 2;
        private static final int FELT_IS_SATED = 4;
        private static final int[] ABOVE = {-1, STUFF, COTTON, COTTON, STUFF, WOOL};

        /** STUFF, of which no SQUARE is told to be, stands for no KIND. */
        static int ofLetter(int letter) {
            switch (letter) {
                case 'c': return COTTON;
                case 'l': return LINEN;
                case 's': return SILK;
                case 'w': return WOOL;
                case 'f': return FELT;
                default: return STUFF;
            }
        }

        static boolean isUnder(int kind, int above) {
            int at = kind;
            for (int step = 0; step < ABOVE.length && at > STUFF && at != above; step++) {
                at = ABOVE[at];
            }
            return at == above;
        }

        /** What is TAKEN of so much in the bath, whatever is the most that a SQUARE can hold. */
        static int taken(int kind, int bath, int had) {
            switch (kind) {
                case LINEN: return bath < LINEN_AT_MOST ? bath : LINEN_AT_MOST;
                case SILK: return bath == 0 ? 0 : bath + 1;
                case WOOL: return bath == 0 ? 0 : bath / 2 + 1;
                case FELT: return bath == 0 || had >= FELT_IS_SATED ? 0 : bath / 2 + 1;
                default: return bath;
            }
        }

        static int layersCracked(int kind) {
            switch (kind) {
                case SILK: return 2;
                case WOOL: return 0;
                default: return 1;
            }
        }

        /** Those of a set of KINDS that TAKE just so much. */
        static int thatTake(int among, int had, int bath, long took) {
            int set = 0;
            for (int kind = COTTON; kind <= FELT; kind++) {
                if ((among >> kind & 1) != 0 && taken(kind, bath, had) == took) {
                    set |= 1 << kind;
                }
            }
            return set;
        }

        /** The least bath that leaves the fewest KINDS alike, at worst. */
        static int bestTry(int among, int had) {
            int best = 1;
            int fewest = greatestPart(among, had, 1);
            for (int bath = 2; bath <= MOST_IN_BATH; bath++) {
                int part = greatestPart(among, had, bath);
                if (part < fewest) {
                    fewest = part;
                    best = bath;
                }
            }
            return best;
        }

        private static int greatestPart(int among, int had, int bath) {
            int greatest = 0;
            for (int took = 0; took <= MOST_TAKEN; took++) {
                greatest = Math.max(greatest, Integer.bitCount(thatTake(among, had, bath, took)));
            }
            return greatest;
        }
    }

    /** How a SQUARE is, in one number: four bits for each COLOUR, its layers of WAX above them. */
    private static final class State {
        static final int WHITE = 0;
        static final int COLOURS = 3;
        static final int ALL_COLOURS = 7;
        static final int MOST_AMOUNT = 9;
        static final int SHADE_BITS = 12;
        private static final int AMOUNT_BITS = 4;
        private static final int AMOUNT_MASK = 15;
        private static final int SHADE_MASK = 4095;

        static boolean isColour(int colour) {
            return colour >= 0 && colour < COLOURS;
        }

        static boolean isAmount(int amount) {
            return amount >= 0 && amount <= MOST_AMOUNT;
        }

        static int ofShade(int red, int yellow, int blue) {
            return red | yellow << AMOUNT_BITS | blue << 2 * AMOUNT_BITS;
        }

        static int amountOf(int state, int colour) {
            return state >> colour * AMOUNT_BITS & AMOUNT_MASK;
        }

        /** The amount is one that keeps the COLOUR within 0 to 9. */
        static int withMore(int state, int colour, int amount) {
            return state + (amount << colour * AMOUNT_BITS);
        }

        static int waxIn(int state) {
            return state >> SHADE_BITS;
        }

        static int withWax(int state, int layers) {
            return state & SHADE_MASK | layers << SHADE_BITS;
        }

        static int hueOf(int state) {
            int greatest = Math.max(amountOf(state, 0), Math.max(amountOf(state, 1), amountOf(state, 2)));
            int hue = 0;
            for (int c = 0; c < COLOURS; c++) {
                int amount = amountOf(state, c);
                if (amount > 0 && 2 * amount >= greatest) {
                    hue |= 1 << c;
                }
            }
            return hue;
        }

        static int darkness(int state) {
            return amountOf(state, 0) + amountOf(state, 1) + amountOf(state, 2);
        }
    }

    /** A CLOTH: what the TAPE told of it, and how its SQUARES are. Without SQUARES it is none. */
    private static final class Cloth {
        static final int MOST_SQUARES = 8;
        static final int MOST_DYES = 4;
        static final int MOST_STENCILS = 3;
        static final int FIRST_STENCIL = 10;
        static final int BOILING = 20;
        static final int RINSING = 21;
        private static final int LAID = 3;

        int squares;
        int dyes;
        int stencils;
        int doings;
        final int[] kindOf = new int[MOST_SQUARES];
        final int[] wished = new int[MOST_SQUARES];
        final int[] states = new int[MOST_SQUARES];
        final int[] dyeAmounts = new int[MOST_DYES * State.COLOURS];
        final int[] stencilSets = new int[MOST_STENCILS];

        boolean stands() {
            return squares > 0;
        }

        void become(Cloth other) {
            squares = other.squares;
            dyes = other.dyes;
            stencils = other.stencils;
            doings = other.doings;
            System.arraycopy(other.kindOf, 0, kindOf, 0, MOST_SQUARES);
            System.arraycopy(other.wished, 0, wished, 0, MOST_SQUARES);
            System.arraycopy(other.states, 0, states, 0, MOST_SQUARES);
            System.arraycopy(other.dyeAmounts, 0, dyeAmounts, 0, MOST_DYES * State.COLOURS);
            System.arraycopy(other.stencilSets, 0, stencilSets, 0, MOST_STENCILS);
        }

        boolean hasSquare(int square) {
            return square >= 0 && square < squares;
        }

        boolean hasDye(int dye) {
            return dye >= 0 && dye < dyes;
        }

        boolean hasStencil(int stencil) {
            return stencil >= 0 && stencil < stencils;
        }

        /** Items of a SHEET are asked too, so the number may be a long one. */
        boolean hasDoing(long doing) {
            if (!stands() || doing < 0 || doing > RINSING) {
                return false;
            }
            return doing < dyes || doing >= BOILING
                || doing >= FIRST_STENCIL && doing < FIRST_STENCIL + stencils;
        }

        int doingCount() {
            return dyes + stencils + 2;
        }

        int nthDoing(int nth) {
            if (nth < dyes) {
                return nth;
            }
            return nth < dyes + stencils ? FIRST_STENCIL + nth - dyes : BOILING + nth - dyes - stencils;
        }

        int amountInDye(int dye, int colour) {
            return dyeAmounts[dye * State.COLOURS + colour];
        }

        /** How much more of a COLOUR is in a SQUARE without WAX behind a BATH. */
        int gain(int square, int state, int dye, int colour) {
            int had = State.amountOf(state, colour);
            int taken = Kind.taken(kindOf[square], amountInDye(dye, colour), had);
            return Math.min(taken, State.MOST_AMOUNT - had);
        }

        int after(int square, int state, int doing) {
            if (doing < FIRST_STENCIL) {
                return State.waxIn(state) == 0 ? dyed(square, state, doing) : cracked(square, state);
            }
            if (doing < BOILING) {
                boolean covered = (stencilSets[doing - FIRST_STENCIL] >> square & 1) != 0;
                return covered ? State.withWax(state, LAID) : state;
            }
            if (doing == BOILING) {
                return State.withWax(state, 0);
            }
            return State.waxIn(state) == 0 ? rinsed(state) : state;
        }

        int dyed(int square, int state, int dye) {
            int result = state;
            for (int c = 0; c < State.COLOURS; c++) {
                result = State.withMore(result, c, gain(square, state, dye, c));
            }
            return result;
        }

        private int cracked(int square, int state) {
            return State.withWax(state, Math.max(0, State.waxIn(state) - Kind.layersCracked(kindOf[square])));
        }

        private static int rinsed(int state) {
            int result = state;
            for (int c = 0; c < State.COLOURS; c++) {
                result = State.withMore(result, c, State.amountOf(state, c) > 0 ? -1 : 0);
            }
            return result;
        }

        int afterRow(int square, int state, int[] row, int n) {
            int result = state;
            for (int d = 0; d < n; d++) {
                result = after(square, result, row[d]);
            }
            return result;
        }

        /** Does a DOING to all SQUARES; tells whether anything is not as it was. */
        boolean apply(int doing, int[] from, int[] to) {
            boolean changed = false;
            for (int s = 0; s < squares; s++) {
                int before = from[s];
                to[s] = after(s, before, doing);
                changed |= to[s] != before;
            }
            return changed;
        }

        boolean isRight(int square, int state) {
            return State.hueOf(state) == wished[square];
        }

        int rightSet(int[] in) {
            int set = 0;
            for (int s = 0; s < squares; s++) {
                if (isRight(s, in[s])) {
                    set |= 1 << s;
                }
            }
            return set;
        }

        int rightCount(int[] in) {
            return Integer.bitCount(rightSet(in));
        }

        int darknessOf(int[] in) {
            int dark = 0;
            for (int s = 0; s < squares; s++) {
                dark += State.darkness(in[s]);
            }
            return dark;
        }

        int waxedSet() {
            int set = 0;
            for (int s = 0; s < squares; s++) {
                if (State.waxIn(states[s]) > 0) {
                    set |= 1 << s;
                }
            }
            return set;
        }
    }

    /** THE TAPE. */
    private static final class Tape {
        static final int END = -1;
        private static final int MOST_BYTES = 80;

        int length;
        private final int[] bytes = new int[MOST_BYTES];

        boolean put(int letter) {
            if (length >= MOST_BYTES) {
                return false;
            }
            bytes[length++] = letter;
            return true;
        }

        int at(int place) {
            return place >= 0 && place < length ? bytes[place] : END;
        }
    }

    /**
     * Reads a TAPE into a CLOTH of its own, so that a FAULT leaves the CLOTH that stands as it is.
     * Nothing is ever done to that one: it stays white, without WAX and DOINGS.
     */
    private static final class Reader {
        private static final int NO_FIGURE = -1;

        final Cloth result = new Cloth();
        /** Behind a reading that failed: the place of the FAULT. */
        int place;
        private final Tape source;

        Reader(Tape tape) {
            source = tape;
        }

        boolean read() {
            place = 0;
            return sign('w') && readSquares() && readDyes() && readStencils();
        }

        /** Goes past a sign, if it is there. */
        private boolean sign(int wanted) {
            if (source.at(place) != wanted) {
                return false;
            }
            place++;
            return true;
        }

        /** Goes past a figure within bounds, if one is there. */
        private int figure(int least, int most) {
            int value = source.at(place) - '0';
            if (value < least || value > most) {
                return NO_FIGURE;
            }
            place++;
            return value;
        }

        private boolean readSquares() {
            for (int s = 0; s < Cloth.MOST_SQUARES; s++) {
                if (!readSquare(s)) {
                    return false;
                }
                result.squares = s + 1;
                if (s + 1 == Cloth.MOST_SQUARES || !sign(',')) {
                    break;
                }
            }
            return sign(';');
        }

        private boolean readSquare(int square) {
            int kind = Kind.ofLetter(source.at(place));
            if (kind == Kind.STUFF) {
                return false;
            }
            place++;
            int hue = figure(0, State.ALL_COLOURS);
            if (hue == NO_FIGURE) {
                return false;
            }
            result.kindOf[square] = kind;
            result.wished[square] = hue;
            return true;
        }

        private boolean readDyes() {
            for (int d = 0; d < Cloth.MOST_DYES; d++) {
                if (!readDye(d)) {
                    return false;
                }
                result.dyes = d + 1;
                if (d + 1 == Cloth.MOST_DYES || !sign(',')) {
                    break;
                }
            }
            return sign(';');
        }

        private boolean readDye(int dye) {
            for (int c = 0; c < State.COLOURS; c++) {
                int amount = figure(0, Kind.MOST_IN_BATH);
                if (amount == NO_FIGURE) {
                    return false;
                }
                result.dyeAmounts[dye * State.COLOURS + c] = amount;
            }
            return true;
        }

        private boolean readStencils() {
            for (int s = 0; s < Cloth.MOST_STENCILS; s++) {
                int set = readStencil();
                if (set == 0) {
                    return false;
                }
                result.stencilSets[s] = set;
                result.stencils = s + 1;
                if (s + 1 == Cloth.MOST_STENCILS || !sign(',')) {
                    break;
                }
            }
            return source.at(place) == Tape.END;
        }

        /** The set of the rising SQUARES that are there; what stands behind them is not looked at. */
        private int readStencil() {
            int set = 0;
            int least = 0;
            for (int step = 0; step < Cloth.MOST_SQUARES; step++) {
                int square = figure(least, result.squares - 1);
                if (square == NO_FIGURE) {
                    break;
                }
                set |= 1 << square;
                least = square + 1;
            }
            return set;
        }
    }

    /** How the SQUARES were ahead of the latest DOINGS: a ring, so that the oldest gives way. */
    private static final class Past {
        private static final int MOST_HELD = 24;

        int held;
        private int next;
        private final int[][] ring = new int[MOST_HELD][Cloth.MOST_SQUARES];

        void forget() {
            held = 0;
        }

        void keep(int[] states) {
            System.arraycopy(states, 0, ring[next], 0, Cloth.MOST_SQUARES);
            next = (next + 1) % MOST_HELD;
            held = Math.min(held + 1, MOST_HELD);
        }

        boolean takeBack(int[] states) {
            if (held == 0) {
                return false;
            }
            next = (next + MOST_HELD - 1) % MOST_HELD;
            held--;
            System.arraycopy(ring[next], 0, states, 0, Cloth.MOST_SQUARES);
            return true;
        }
    }

    /** PLAN: goes through the rows of DOINGS, the shorter ones first. */
    private static final class Planner {
        int bestRight;
        int bestLength;
        final int[] best = new int[MOST_PLANNED];
        private final int[] row = new int[MOST_PLANNED];
        private final int[][] levels = new int[MOST_PLANNED + 1][Cloth.MOST_SQUARES];

        void search(Cloth cloth, int n) {
            System.arraycopy(cloth.states, 0, levels[0], 0, Cloth.MOST_SQUARES);
            bestRight = cloth.rightCount(cloth.states);
            bestLength = 0;
            for (int length = 1; length <= n && bestRight < cloth.squares; length++) {
                extend(cloth, 0, length);
            }
        }

        /** A DOING that changes nothing is passed over: a shorter row, seen before, does as much without it. */
        private void extend(Cloth cloth, int depth, int length) {
            if (depth >= MOST_PLANNED) {
                return;
            }
            boolean last = depth + 1 == length;
            for (int d = 0; d < cloth.doingCount(); d++) {
                row[depth] = cloth.nthDoing(d);
                if (last && isWaxOnly(row[depth])) {
                    continue;
                }
                if (!cloth.apply(row[depth], levels[depth], levels[depth + 1])) {
                    continue;
                }
                if (last) {
                    judge(cloth.rightCount(levels[length]), length);
                } else {
                    extend(cloth, depth + 1, length);
                }
            }
        }

        /** No HUE is another by it, so that as the last of a row it brings nothing. */
        private static boolean isWaxOnly(int doing) {
            return doing >= Cloth.FIRST_STENCIL && doing <= Cloth.BOILING;
        }

        private void judge(int right, int length) {
            if (right <= bestRight) {
                return;
            }
            bestRight = right;
            bestLength = length;
            System.arraycopy(row, 0, best, 0, length);
        }
    }

    /** ROWS and SHADES: goes through all rows of n BATHS of a SQUARE that is white, without WAX. */
    private static final class Baths {
        private static final int WORD_BITS = 6;

        int found;
        int unlike;
        final int[] first = new int[MOST_BATHS];
        private final int[] row = new int[MOST_BATHS];
        private final long[] seen = new long[1 << State.SHADE_BITS - WORD_BITS];

        void walk(Cloth cloth, int square, int n, int wanted) {
            found = 0;
            unlike = 0;
            for (int w = 0; w < seen.length; w++) {
                seen[w] = 0;
            }
            bathe(cloth, square, State.WHITE, 0, n, wanted);
        }

        private void bathe(Cloth cloth, int square, int state, int depth, int n, int wanted) {
            if (depth >= n || depth >= MOST_BATHS) {
                note(state, n, wanted);
                return;
            }
            for (int dye = 0; dye < cloth.dyes; dye++) {
                row[depth] = dye;
                bathe(cloth, square, cloth.dyed(square, state, dye), depth + 1, n, wanted);
            }
        }

        private void note(int shade, int n, int wanted) {
            long bit = 1L << (shade & 63);
            int word = shade >> WORD_BITS;
            if ((seen[word] & bit) == 0) {
                seen[word] |= bit;
                unlike++;
            }
            if (shade != wanted) {
                return;
            }
            if (found == 0) {
                System.arraycopy(row, 0, first, 0, n);
            }
            found++;
        }
    }

    /** CRACKS and DECADES. */
    private static final class Chances {
        private static final long FACTOR = 16807;
        private static final long MODULUS = 2147483647;
        private static final int MOST_TURNS = 100;

        int above;
        int below;
        int dark;
        int rights;
        private final int[] weights = new int[Cloth.MOST_SQUARES + 1];
        private final int[] states = new int[Cloth.MOST_SQUARES];

        /** The odds that as many as told are RIGHT, or more; all weights together stay within ten to the eighth. */
        void crack(Cloth cloth, int dye, int right, int q) {
            for (int w = 0; w < weights.length; w++) {
                weights[w] = 0;
            }
            weights[0] = 1;
            int whole = 1;
            for (int s = 0; s < cloth.squares; s++) {
                int state = cloth.states[s];
                boolean waxed = State.waxIn(state) > 0;
                int bare = waxed ? q : 1;
                int covered = waxed ? TENTHS - q : 0;
                boolean rightDyed = cloth.isRight(s, cloth.dyed(s, state, dye));
                boolean rightAsIs = cloth.isRight(s, state);
                weigh((rightDyed ? bare : 0) + (rightAsIs ? covered : 0), bare + covered);
                whole *= bare + covered;
            }
            int part = 0;
            for (int w = right; w < weights.length; w++) {
                part += weights[w];
            }
            int common = greatestCommon(whole, part);
            above = part / common;
            below = whole / common;
        }

        /** One more SQUARE, RIGHT in so many cases of all. */
        private void weigh(int right, int all) {
            for (int w = weights.length - 1; w >= 0; w--) {
                int fromLess = w > 0 ? weights[w - 1] * right : 0;
                weights[w] = weights[w] * (all - right) + fromLess;
            }
        }

        void draw(Cloth cloth, int n, int seed) {
            System.arraycopy(cloth.states, 0, states, 0, Cloth.MOST_SQUARES);
            rights = 0;
            long x = seed;
            for (int turn = 0; turn < n; turn++) {
                x = FACTOR * x % MODULUS;
                int nth = (int) (x / 4 % cloth.doingCount());
                cloth.apply(cloth.nthDoing(nth), states, states);
                rights += cloth.rightCount(states);
            }
            dark = cloth.darknessOf(states);
        }

        /** Of a number above 0 and one that is 0 or more: 1 at least. */
        static int greatestCommon(int one, int other) {
            int a = one;
            int b = other;
            for (int turn = 0; b != 0 && turn < MOST_TURNS; turn++) {
                int rest = a % b;
                a = b;
                b = rest;
            }
            return Math.max(a, 1);
        }
    }

    /**
     * ROUND. No SQUARE looks at another one, so each comes round by itself: the CLOTH
     * is in its round when the last of them is, and its lap is the least that all share.
     */
    private static final class Rounds {
        /** Far above the 4000 states that a SQUARE can have. */
        private static final int MOST_STEPS = 100000;

        int lead;
        int lap;

        void measure(Cloth cloth, int[] row, int n) {
            lead = 0;
            lap = 1;
            for (int s = 0; s < cloth.squares; s++) {
                int ownLap = lapOf(cloth, s, row, n);
                int ownLead = leadOf(cloth, s, row, n, ownLap);
                lead = Math.max(lead, ownLead);
                lap = lap / Chances.greatestCommon(ownLap, lap) * ownLap;
            }
        }

        /** Brent's way: the mark is set anew at each power of two, until the SQUARE comes by it again. */
        private static int lapOf(Cloth cloth, int square, int[] row, int n) {
            int mark = cloth.states[square];
            int here = cloth.afterRow(square, mark, row, n);
            int steps = 1;
            int reach = 1;
            for (int turn = 0; here != mark && turn < MOST_STEPS; turn++) {
                if (steps == reach) {
                    mark = here;
                    reach *= 2;
                    steps = 0;
                }
                here = cloth.afterRow(square, here, row, n);
                steps++;
            }
            return steps;
        }

        /** With the front one lap ahead, the two are alike as soon as the one behind is in the round. */
        private static int leadOf(Cloth cloth, int square, int[] row, int n, int ownLap) {
            int behind = cloth.states[square];
            int front = behind;
            for (int step = 0; step < ownLap; step++) {
                front = cloth.afterRow(square, front, row, n);
            }
            int steps = 0;
            for (int turn = 0; front != behind && turn < MOST_STEPS; turn++) {
                front = cloth.afterRow(square, front, row, n);
                behind = cloth.afterRow(square, behind, row, n);
                steps++;
            }
            return steps;
        }
    }

    /** A SHEET: nothing, or a row of a LANE, whose items are held as longs that fit the LANE. */
    private static final class Sheet {
        static final int MOST_ITEMS = 24;
        private static final int BYTES = 0, SHORTS = 1, INTS = 2, LONGS = 3;
        private static final int NOTHING = -1;

        int lane = NOTHING;
        private int size;
        final long[] items = new long[MOST_ITEMS];

        static boolean isLane(int lane) {
            return lane >= BYTES && lane <= LONGS;
        }

        boolean isNothing() {
            return lane == NOTHING;
        }

        void begin(int newLane, int n) {
            lane = newLane;
            size = n;
            for (int i = 0; i < MOST_ITEMS; i++) {
                items[i] = 0;
            }
        }

        int end() {
            lane = NOTHING;
            return size;
        }

        /** Written so that no sum of the two can wrap. */
        boolean holds(int i, int n) {
            return i >= 0 && n >= 0 && n <= size && i <= size - n;
        }

        /** Why n items from i on can't be had as a row of a LANE; ACCEPTED, if they can. */
        int refusal(int asLane, int i, int n) {
            if (isNothing()) {
                return NULL;
            }
            if (lane != asLane) {
                return CAST;
            }
            return holds(i, n) ? ACCEPTED : INDEX;
        }

        long put(int i, long v) {
            switch (lane) {
                case BYTES: items[i] = (byte) v; break;
                case SHORTS: items[i] = (short) v; break;
                case INTS: items[i] = (int) v; break;
                default: items[i] = v; break;
            }
            return items[i];
        }
    }
}
