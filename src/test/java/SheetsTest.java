/** Promises 19 to 27: sheet, drop, item, copy, log, ahead, round, kinds, wishes. */
public final class SheetsTest {
    private static final long FAR = 1L << 32;

    public static void main(String[] args) {
        sheets();
        items();
        copies();
        logs();
        aheads();
        refusalsOfAhead();
        rounds();
        refusalsOfRound();
        kindsByTriples();
        tries();
        refusalsOfKinds();
        wishes();
        Due.end();
    }

    private static void sheets() {
        WaxCloth x = new WaxCloth();
        for (int lane = 0; lane < 4; lane++) {
            Due.due("sheet of lane " + lane, x.sheet(lane, lane, 24), 24);
            Due.due("its last item", x.item(lane, lane, 23, 1), 1);
        }
        Due.due("an empty row", x.sheet(0, 2, 0), 0);
        Due.due("has no item", x.item(0, 2, 0, 0), WaxCloth.INDEX);
        Due.due("drop it", x.drop(0), 0);
        Due.due("drop nothing", x.drop(0), WaxCloth.NULL);
        Due.due("SHEET 4", x.sheet(4, 0, 0), WaxCloth.BAD);
        Due.due("SHEET -1", x.sheet(-1, 0, 0), WaxCloth.BAD);
        Due.due("LANE 4", x.sheet(0, 4, 0), WaxCloth.BAD);
        Due.due("LANE -1", x.sheet(0, -1, 0), WaxCloth.BAD);
        Due.due("25 items", x.sheet(0, 0, 25), WaxCloth.BAD);
        Due.due("-1 items", x.sheet(0, 0, -1), WaxCloth.SIZE);
        Due.due("least items", x.sheet(0, 0, Integer.MIN_VALUE), WaxCloth.SIZE);
        Due.due("BAD ahead of SIZE", x.sheet(4, 0, -1), WaxCloth.BAD);
        Due.due("BAD LANE ahead of SIZE", x.sheet(0, 4, -1), WaxCloth.BAD);
        Due.due("refused: still nothing", x.drop(0), WaxCloth.NULL);
        Due.due("drop 4", x.drop(4), WaxCloth.BAD);
        Due.due("drop -1", x.drop(-1), WaxCloth.BAD);
        Due.due("refused: still a row", x.sheet(1, 1, -1), WaxCloth.SIZE);
        Due.due("the row as it was", x.drop(1), 24);
        aNewRowIsOfZeros();
    }

    private static void aNewRowIsOfZeros() {
        WaxCloth x = Due.withCloth("wc0,c0;100;0");
        Due.longs(x, 0, 7, 7);
        Due.due("7 is not white", x.wishes(0, 3, 0), 0);
        Due.due("a new row", x.sheet(0, 3, 2), 2);
        Due.due("its items are 0", x.wishes(0, 3, 0), 3);
        Due.due("a shorter one", x.sheet(0, 0, 1), 1);
        Due.due("of another LANE", x.item(0, 3, 0, 0), WaxCloth.CAST);
        Due.due("and another length", x.item(0, 0, 1, 0), WaxCloth.INDEX);
    }

    private static void items() {
        WaxCloth x = new WaxCloth();
        for (int lane = 0; lane < 4; lane++) {
            x.sheet(lane, lane, 2);
        }
        long v = 0x7234567890abcdefL;
        Due.due("a byte", x.item(0, 0, 0, v), (byte) v);
        Due.due("a short", x.item(1, 1, 0, v), (short) v);
        Due.due("an int", x.item(2, 2, 0, v), (int) v);
        Due.due("a long", x.item(3, 3, 0, v), v);
        Due.due("128 as a byte", x.item(0, 0, 1, 128), -128);
        Due.due("-129 as a byte", x.item(0, 0, 1, -129), 127);
        Due.due("32768 as a short", x.item(1, 1, 1, 32768), -32768);
        Due.due("2147483648 as an int", x.item(2, 2, 1, 2147483648L), -2147483648L);
        Due.due("the least long", x.item(3, 3, 1, Long.MIN_VALUE), Long.MIN_VALUE);
        Due.due("item 2", x.item(0, 0, 2, 0), WaxCloth.INDEX);
        Due.due("item -1", x.item(0, 0, -1, 0), WaxCloth.INDEX);
        Due.due("item least", x.item(0, 0, Integer.MIN_VALUE, 0), WaxCloth.INDEX);
        Due.due("item greatest", x.item(0, 0, Integer.MAX_VALUE, 0), WaxCloth.INDEX);
        Due.due("CAST ahead of INDEX", x.item(0, 1, 2, 0), WaxCloth.CAST);
        x.drop(0);
        Due.due("NULL ahead of CAST", x.item(0, 1, 2, 0), WaxCloth.NULL);
        Due.due("BAD LANE ahead of NULL", x.item(0, 4, 2, 0), WaxCloth.BAD);
        Due.due("BAD LANE below", x.item(0, -1, 2, 0), WaxCloth.BAD);
        Due.due("BAD SHEET", x.item(4, 0, 0, 0), WaxCloth.BAD);
        Due.due("BAD SHEET below", x.item(-1, 0, 0, 0), WaxCloth.BAD);
    }

    private static void copies() {
        WaxCloth x = Due.withCloth("wc0,c0,c0,c0;111;0");
        Due.longs(x, 0, 0, 1, 0, 1);
        Due.due("to the right in itself", x.copy(0, 0, 0, 1, 3), 3);
        Due.due("as if taken ahead: 0 0 1 0", x.wishes(0, 3, 0), 11);
        Due.due("to the left in itself", x.copy(0, 1, 0, 0, 3), 3);
        Due.due("0 1 0 0", x.wishes(0, 3, 0), 13);
        Due.longs(x, 1, 5, 5, 5, 5, 5);
        Due.due("to another", x.copy(0, 0, 1, 1, 3), 3);
        Due.due("5 0 1 0 5", x.wishes(1, 3, 0), 10);
        Due.due("the last stays", x.wishes(1, 3, 1), 5);
        Due.due("all of it", x.copy(0, 0, 1, 1, 4), 4);
        Due.due("none at the end", x.copy(0, 4, 1, 5, 0), 0);
        refusalsOfCopy(x);
    }

    private static void refusalsOfCopy(WaxCloth x) {
        Due.due("one too many from", x.copy(0, 1, 1, 0, 4), WaxCloth.INDEX);
        Due.due("one too many to", x.copy(0, 0, 1, 2, 4), WaxCloth.INDEX);
        Due.due("i -1", x.copy(0, -1, 1, 0, 1), WaxCloth.INDEX);
        Due.due("j -1", x.copy(0, 0, 1, -1, 1), WaxCloth.INDEX);
        Due.due("n -1", x.copy(0, 0, 1, 0, -1), WaxCloth.INDEX);
        Due.due("none beyond the end", x.copy(0, 5, 1, 0, 0), WaxCloth.INDEX);
        Due.due("greatest n", x.copy(0, 1, 1, 1, Integer.MAX_VALUE), WaxCloth.INDEX);
        Due.due("greatest i", x.copy(0, Integer.MAX_VALUE, 1, 1, 2), WaxCloth.INDEX);
        Due.due("least i", x.copy(0, Integer.MIN_VALUE, 1, 1, 2), WaxCloth.INDEX);
        Due.due("least n", x.copy(0, 1, 1, 1, Integer.MIN_VALUE), WaxCloth.INDEX);
        x.sheet(2, 2, 4);
        Due.due("CAST ahead of INDEX", x.copy(0, -1, 2, 0, 1), WaxCloth.CAST);
        Due.due("NULL from", x.copy(3, 0, 2, 0, -1), WaxCloth.NULL);
        Due.due("NULL to", x.copy(2, 0, 3, 0, 1), WaxCloth.NULL);
        Due.due("BAD from ahead of NULL", x.copy(4, 0, 3, 0, 1), WaxCloth.BAD);
        Due.due("BAD to ahead of NULL", x.copy(3, 0, -1, 0, 1), WaxCloth.BAD);
        Due.due("BAD from below", x.copy(-1, 0, 0, 0, 1), WaxCloth.BAD);
        Due.due("BAD to above", x.copy(0, 0, 4, 0, 1), WaxCloth.BAD);
        Due.due("refused: as it was", x.wishes(0, 3, 0), 13);
    }

    private static void logs() {
        WaxCloth x = Due.withCloth("wc0,c0,c0;120;1");
        x.does(10);
        x.does(0);
        Due.lane(x, 0, 0, 9, 9, 9, 9, 9);
        Due.due("log", x.log(0, 0, 1), 3);
        Due.due("what it wrote", x.wishes(0, 0, 1), 7);
        Due.due("what it left", x.wishes(0, 0, 2), 0);
        x.does(20);
        x.does(0);
        Due.due("at the end", x.log(0, 0, 2), 3);
        Due.due("log 3", x.log(0, 0, 3), WaxCloth.INDEX);
        Due.due("log -1", x.log(0, 0, -1), WaxCloth.INDEX);
        Due.due("log greatest", x.log(0, 0, Integer.MAX_VALUE), WaxCloth.INDEX);
        Due.due("refused: nothing written", x.wishes(0, 0, 2), 7);
        Due.due("CAST ahead of INDEX", x.log(0, 1, 3), WaxCloth.CAST);
        Due.due("NULL ahead of CAST", x.log(1, 1, 3), WaxCloth.NULL);
        Due.due("BAD LANE", x.log(1, 4, 3), WaxCloth.BAD);
        Due.due("BAD LANE below", x.log(1, -1, 3), WaxCloth.BAD);
        Due.due("BAD SHEET", x.log(4, 0, 3), WaxCloth.BAD);
        Due.due("BAD SHEET below", x.log(-1, 0, 3), WaxCloth.BAD);
        Due.due("no CLOTH ahead of NULL", new WaxCloth().log(0, 0, 0), WaxCloth.BAD);
    }

    private static void aheads() {
        WaxCloth x = Due.withCloth("wc0,s0;120,001;0");
        x.does(1);
        Due.lane(x, 0, 0, 10, 0, 20, 0, 21);
        int[][] dark = {{1, 1, 1, 1, 4, 1}, {2, 2, 7, 7, 12, 9}};
        int[][] hue = {{4, 4, 4, 4, 7, 2}, {4, 4, 7, 7, 3, 3}};
        int[][] wax = {{0, 3, 2, 0, 0, 0}, {0, 0, 0, 0, 0, 0}};
        for (int s = 0; s < 2; s++) {
            for (int n = 0; n <= 5; n++) {
                Due.due("HUE of " + s + " behind " + n, x.ahead(s, 0, 0, 0, n, 0), hue[s][n]);
                Due.due("DARK of " + s + " behind " + n, x.ahead(s, 0, 0, 0, n, 1), dark[s][n]);
                Due.due("WAX of " + s + " behind " + n, x.ahead(s, 0, 0, 0, n, 2), wax[s][n]);
            }
        }
        Due.due("from the fourth on", x.ahead(0, 0, 0, 3, 2, 1), 1);
        Due.due("none at the end", x.ahead(0, 0, 0, 5, 0, 1), 1);
        Due.due("nothing changes", x.square(0, 4), 1);
        Due.due("no DOINGS by it", x.count(3), 1);
        x.sheet(1, 2, 20);
        Due.due("the most", x.ahead(0, 1, 2, 0, 20, 1), 19);
    }

    private static void refusalsOfAhead() {
        WaxCloth x = Due.withCloth("wc0;100;0");
        Due.longs(x, 0, 0, 1, 0, 11, 0, 22, 0, -1, 0, 9, 0, FAR, 0, 19, 0, FAR + 20);
        for (int i = 1; i < 16; i += 2) {
            Due.due("no DOING at " + i, x.ahead(0, 0, 3, i, 1, 0), WaxCloth.NOT);
            Due.due("no DOING at the end, from " + (i - 1), x.ahead(0, 0, 3, i - 1, 2, 0), WaxCloth.NOT);
        }
        Due.due("n 21", x.ahead(0, 0, 3, 0, 21, 0), WaxCloth.BAD);
        Due.due("n -1", x.ahead(0, 0, 3, 0, -1, 0), WaxCloth.BAD);
        Due.due("what 3", x.ahead(0, 0, 3, 0, 1, 3), WaxCloth.BAD);
        Due.due("what -1", x.ahead(0, 0, 3, 0, 1, -1), WaxCloth.BAD);
        Due.due("SQUARE 1", x.ahead(1, 0, 3, 0, 1, 0), WaxCloth.BAD);
        Due.due("SQUARE -1", x.ahead(-1, 0, 3, 0, 1, 0), WaxCloth.BAD);
        Due.due("SHEET 4", x.ahead(0, 4, 3, 0, 1, 0), WaxCloth.BAD);
        Due.due("SHEET -1", x.ahead(0, -1, 3, 0, 1, 0), WaxCloth.BAD);
        Due.due("LANE 4 ahead of NULL", x.ahead(0, 1, 4, 0, 1, 0), WaxCloth.BAD);
        Due.due("LANE -1 ahead of NULL", x.ahead(0, 1, -1, 0, 1, 0), WaxCloth.BAD);
        Due.due("NULL", x.ahead(0, 1, 3, 99, 1, 0), WaxCloth.NULL);
        Due.due("CAST ahead of INDEX", x.ahead(0, 0, 2, 99, 1, 0), WaxCloth.CAST);
        Due.due("INDEX ahead of NOT", x.ahead(0, 0, 3, 15, 2, 0), WaxCloth.INDEX);
        Due.due("INDEX below", x.ahead(0, 0, 3, -1, 1, 0), WaxCloth.INDEX);
        Due.due("INDEX greatest", x.ahead(0, 0, 3, Integer.MAX_VALUE, 20, 0), WaxCloth.INDEX);
    }

    private static void round(String what, WaxCloth x, int i, int n, int lead, int lap) {
        Due.due(what + ": ahead", x.round(0, 3, i, n, 0), lead);
        Due.due(what + ": between", x.round(0, 3, i, n, 1), lap);
    }

    private static void rounds() {
        WaxCloth x = Due.withCloth("wc0;100,200;0");
        Due.longs(x, 0, 0, 21, 20, 10, 1);
        round("a BATH by ones", x, 0, 1, 9, 1);
        round("a BATH by twos", x, 4, 1, 5, 1);
        round("a BATH and a RINSING", x, 0, 2, 0, 1);
        round("a BOILING", x, 2, 1, 0, 1);
        round("a STENCIL", x, 3, 1, 1, 1);
        round("a STENCIL and a BATH", x, 3, 2, 1, 1);
        x.does(10);
        round("under WAX at first", x, 0, 1, 12, 1);
        // FELT by 2 and 1 less: 0 1 2 3 4 3 4 ..
        WaxCloth felt = Due.withCloth("wf0;300,100;0");
        Due.longs(felt, 0, 0, 21, 21, 1, 0, 0);
        round("FELT goes to and fro", felt, 0, 2, 3, 2);
        roundsOfSeveral();
    }

    /** One SQUARE is held back by WAX, so that the laps of two COLOURS and of both SQUARES are joined. */
    private static void roundsOfSeveral() {
        WaxCloth x = Due.withCloth("wf0,c0,f0;330,001;0");
        Due.longs(x, 0, 0, 1, 21, 0, 10, 21, 20, 1);
        for (int n = 1; n <= 8; n++) {
            int[] due = roundBySteps(n);
            round("several by " + n, x, 0, n, due[0], due[1]);
        }
    }

    /** ROUND by an object of its own that does all of it. */
    private static int[] roundBySteps(int n) {
        long[] row = {0, 1, 21, 0, 10, 21, 20, 1};
        WaxCloth y = Due.withCloth("wf0,c0,f0;330,001;0");
        String[] seen = new String[200];
        for (int time = 0; time < seen.length; time++) {
            StringBuilder all = new StringBuilder();
            for (int s = 0; s < 3; s++) {
                all.append(y.square(s, 2)).append(y.square(s, 6)).append(y.square(s, 7)).append(y.square(s, 8));
            }
            seen[time] = all.toString();
            for (int before = 0; before < time; before++) {
                if (seen[before].equals(seen[time])) {
                    return new int[] {before, time - before};
                }
            }
            for (int d = 0; d < n; d++) {
                y.does((int) row[d]);
            }
        }
        return new int[] {-1, -1};
    }

    private static void refusalsOfRound() {
        WaxCloth x = Due.withCloth("wc0;100;0");
        Due.longs(x, 0, 0, 1, FAR);
        Due.due("n 0", x.round(0, 3, 0, 0, 0), WaxCloth.BAD);
        Due.due("n 21", x.round(0, 3, 0, 21, 0), WaxCloth.BAD);
        Due.due("what 2", x.round(0, 3, 0, 1, 2), WaxCloth.BAD);
        Due.due("what -1", x.round(0, 3, 0, 1, -1), WaxCloth.BAD);
        Due.due("SHEET 4", x.round(4, 3, 0, 1, 0), WaxCloth.BAD);
        Due.due("SHEET -1", x.round(-1, 3, 0, 1, 0), WaxCloth.BAD);
        Due.due("LANE 4 ahead of NULL", x.round(1, 4, 0, 1, 0), WaxCloth.BAD);
        Due.due("NULL", x.round(1, 3, 0, 1, 0), WaxCloth.NULL);
        Due.due("CAST", x.round(0, 0, 9, 1, 0), WaxCloth.CAST);
        Due.due("INDEX ahead of NOT", x.round(0, 3, 1, 3, 0), WaxCloth.INDEX);
        Due.due("INDEX below", x.round(0, 3, -1, 1, 0), WaxCloth.INDEX);
        Due.due("NOT", x.round(0, 3, 0, 2, 0), WaxCloth.NOT);
        Due.due("NOT, far", x.round(0, 3, 2, 1, 0), WaxCloth.NOT);
        x.sheet(1, 0, 20);
        Due.due("the most", x.round(1, 0, 0, 20, 0), 1);
        WaxCloth none = new WaxCloth();
        Due.due("no CLOTH ahead of NULL", none.round(0, 3, 0, 1, 0), WaxCloth.BAD);
    }

    private static void kindsByTriples() {
        WaxCloth x = new WaxCloth();
        int[][] taken = {{}, {0, 1, 2, 3}, {0, 1, 2, 2}, {0, 2, 3, 4}, {0, 1, 2, 2}, {0, 1, 2, 2}};
        for (int had = 0; had <= 9; had++) {
            for (int bath = 0; bath <= 3; bath++) {
                for (int took = -1; took <= 5; took++) {
                    int set = 0;
                    for (int kind = 1; kind <= 5; kind++) {
                        int takes = kind == 5 && had >= 4 ? 0 : taken[kind][bath];
                        set |= takes == took ? 1 << kind : 0;
                    }
                    Due.lane(x, 0, 1, had, bath, took);
                    Due.due("KINDS by " + had + " " + bath + " " + took, x.kinds(0, 1, 0, 1, -1), set);
                }
            }
        }
        Due.longs(x, 0, 0, 3, 2, 5, 2, 2, 0, 3, FAR + 2);
        Due.due("LINEN, WOOL, FELT", x.kinds(0, 3, 0, 1, -1), 52);
        Due.due("LINEN, WOOL", x.kinds(0, 3, 0, 2, -1), 20);
        Due.due("none by what it TOOK", x.kinds(0, 3, 0, 3, -1), 0);
        Due.due("from the second on", x.kinds(0, 3, 3, 1, -1), 22);
        x.sheet(1, 0, 24);
        Due.due("seven triples", x.kinds(1, 0, 3, 7, -1), 62);
    }

    private static void tries() {
        WaxCloth x = new WaxCloth();
        x.sheet(0, 3, 3);
        // of all, 1: {c l w f} {s}; 2: {c l w f} {s}; 3: {c} {l w f} {s}
        Due.due("of all, 0 there", x.kinds(0, 3, 0, 1, 0), 3);
        // with 4 in it: 3: {c} {l w} {s} {f}
        Due.due("of all, 4 there", x.kinds(0, 3, 0, 1, 4), 3);
        Due.longs(x, 1, 0, 1, 1);
        Due.due("but SILK", x.kinds(1, 3, 0, 1, -1), 54);
        Due.due("but SILK, 0 there", x.kinds(1, 3, 0, 1, 0), 3);
        Due.longs(x, 1, 0, 3, 2);
        Due.due("all alike: the least", x.kinds(1, 3, 0, 1, 3), 1);
        Due.due("two alike at most: the least", x.kinds(1, 3, 0, 1, 9), 1);
        Due.longs(x, 1, 0, 3, 4);
        Due.due("SILK alone", x.kinds(1, 3, 0, 1, -1), 8);
        Due.due("SILK alone: the least", x.kinds(1, 3, 0, 1, 0), 1);
        Due.longs(x, 1, 0, 3, 5);
        Due.due("no KIND", x.kinds(1, 3, 0, 1, -1), 0);
        Due.due("no KIND to try", x.kinds(1, 3, 0, 1, 0), WaxCloth.NONE);
    }

    private static void refusalsOfKinds() {
        WaxCloth x = new WaxCloth();
        Due.longs(x, 0, 10, 0, 0, -1, 0, 0, 0, 4, 0, 0, -1, 0, FAR, 0, 0, 0, FAR, 0);
        for (int i = 0; i < 18; i += 3) {
            Due.due("not so much at " + i, x.kinds(0, 3, i, 1, -1), WaxCloth.NOT);
        }
        Due.due("NOT ahead of NONE", x.kinds(0, 3, 0, 2, 0), WaxCloth.NOT);
        Due.due("only the last one", x.kinds(0, 3, 1, 4, -1), WaxCloth.NOT);
        Due.due("what -2", x.kinds(0, 3, 0, 1, -2), WaxCloth.BAD);
        Due.due("what 10", x.kinds(0, 3, 0, 1, 10), WaxCloth.BAD);
        Due.due("n 0", x.kinds(0, 3, 0, 0, -1), WaxCloth.BAD);
        Due.due("n 8", x.kinds(0, 3, 0, 8, -1), WaxCloth.BAD);
        Due.due("n greatest", x.kinds(0, 3, 0, Integer.MAX_VALUE, -1), WaxCloth.BAD);
        Due.due("SHEET 4", x.kinds(4, 3, 0, 1, -1), WaxCloth.BAD);
        Due.due("SHEET -1", x.kinds(-1, 3, 0, 1, -1), WaxCloth.BAD);
        Due.due("LANE 4 ahead of NULL", x.kinds(1, 4, 0, 1, -1), WaxCloth.BAD);
        Due.due("LANE -1 ahead of NULL", x.kinds(1, -1, 0, 1, -1), WaxCloth.BAD);
        Due.due("NULL", x.kinds(1, 3, 0, 1, -1), WaxCloth.NULL);
        Due.due("CAST", x.kinds(0, 1, 99, 1, -1), WaxCloth.CAST);
        Due.due("INDEX ahead of NOT", x.kinds(0, 3, 16, 1, -1), WaxCloth.INDEX);
        Due.due("INDEX by n", x.kinds(0, 3, 0, 7, -1), WaxCloth.INDEX);
        Due.due("INDEX below", x.kinds(0, 3, -1, 1, -1), WaxCloth.INDEX);
    }

    private static void wishes() {
        WaxCloth x = Due.withCloth("wc0,c0,c0;120,003;0,1");
        x.does(10);
        x.does(0);
        x.does(11);
        Due.longs(x, 0, 9, 0, 3, 3, 3 + FAR, -5);
        Due.due("wishes", x.wishes(0, 3, 1), 7);
        Due.due("but for a far one", x.wishes(0, 3, 2), 2);
        Due.due("from 0", x.wishes(0, 3, 0), 4);
        Due.due("wishes 3", x.wishes(0, 3, 3), 0);
        Due.due("wishes 4", x.wishes(0, 3, 4), WaxCloth.INDEX);
        Due.due("wishes -1", x.wishes(0, 3, -1), WaxCloth.INDEX);
        Due.due("CAST ahead of INDEX", x.wishes(0, 2, 4), WaxCloth.CAST);
        Due.due("NULL ahead of CAST", x.wishes(1, 2, 4), WaxCloth.NULL);
        Due.due("LANE 4", x.wishes(1, 4, 4), WaxCloth.BAD);
        Due.due("SHEET 4", x.wishes(4, 0, 4), WaxCloth.BAD);
        Due.due("SHEET -1", x.wishes(-1, 0, 4), WaxCloth.BAD);
        Due.due("WISHED stays", x.square(1, 1), 0);
        Due.due("no CLOTH ahead of NULL", new WaxCloth().wishes(0, 0, 0), WaxCloth.BAD);
    }
}
