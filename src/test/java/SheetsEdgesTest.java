import java.util.Arrays;

/** The boundaries of SHEETS (terms 4, promises 19 to 27), sentence by sentence. */
public final class SheetsEdgesTest {
    private static final int LEAST = Integer.MIN_VALUE, GREATEST = Integer.MAX_VALUE;
    /** Behind a BATH of DYE v the one SQUARE is v DARK, so that an item 0 to 3 can be seen by ahead. */
    private static final String SHOWING = "wc0;000,100,200,300;0";
    private static final String EIGHT = "wc0,c0,c0,c0,c0,c0,c0,c0;111;7,0246";

    public static void main(String[] args) {
        nothingAtFirst();
        zeroToTwentyFourItems();
        aNewRowIsOfZeros();
        eachSheetByItself();
        lowestBits();
        copiesOfEachLength();
        copiesWithinARow();
        copiesOfEachLane();
        logsWhereTheyFit();
        wishesWhereTheyFit();
        itemsThatAreDoings();
        onlyTheItemsAskedFor();
        aheadOfNoneAndTwenty();
        roundsOfOneAndTwenty();
        roundsOfWaxAndColours();
        triplesAtTheirEnds();
        oneToSevenTriples();
        triesAtTheirEnds();
        copiesThatChangeNothing();
        Due.end();
    }

    /** "nothing (at first)": NULL for each call that takes a SHEET, before and behind a row in it. */
    private static void nothingAtFirst() {
        for (int sheet = 0; sheet < 4; sheet++) {
            WaxCloth x = Due.withCloth("wc0;100;0");
            int other = (sheet + 1) % 4;
            x.sheet(other, 0, 24);
            isNothing(x, sheet, other);
            Due.due("a row", x.sheet(sheet, 0, 24), 24);
            Due.due("a call on it", x.ahead(0, sheet, 0, 0, 1, 1), 1);
            Due.due("dropped", x.drop(sheet), 24);
            isNothing(x, sheet, other);
            Due.due("the other one stays", x.drop(other), 24);
        }
    }

    private static void isNothing(WaxCloth x, int sheet, int other) {
        Due.due("drop", x.drop(sheet), WaxCloth.NULL);
        Due.due("item", x.item(sheet, 0, 0, 1), WaxCloth.NULL);
        Due.due("copy from", x.copy(sheet, 0, other, 0, 1), WaxCloth.NULL);
        Due.due("copy to", x.copy(other, 0, sheet, 0, 1), WaxCloth.NULL);
        Due.due("copy in itself", x.copy(sheet, 0, sheet, 0, 0), WaxCloth.NULL);
        Due.due("log", x.log(sheet, 0, 0), WaxCloth.NULL);
        Due.due("ahead", x.ahead(0, sheet, 0, 0, 0, 0), WaxCloth.NULL);
        Due.due("round", x.round(sheet, 0, 0, 1, 0), WaxCloth.NULL);
        Due.due("kinds", x.kinds(sheet, 0, 0, 1, -1), WaxCloth.NULL);
        Due.due("wishes", x.wishes(sheet, 0, 0), WaxCloth.NULL);
    }

    /** "of 0 to 24 items": the last item of each length, and the first beyond it. */
    private static void zeroToTwentyFourItems() {
        WaxCloth x = new WaxCloth();
        for (int n = 0; n <= 24; n++) {
            int lane = n % 4;
            Due.due("a row of " + n, x.sheet(2, lane, n), n);
            if (n > 0) {
                Due.due("the first of " + n, x.item(2, lane, 0, 6), 6);
                Due.due("the last of " + n, x.item(2, lane, n - 1, 7), 7);
            }
            for (int beyond : new int[] {n, n + 1, 24, 25, -1, LEAST, GREATEST}) {
                Due.due("beyond " + n, x.item(2, lane, beyond, 1), WaxCloth.INDEX);
            }
            Due.due("how many it had", x.drop(2), n);
        }
        Due.due("25", x.sheet(2, 0, 25), WaxCloth.BAD);
        Due.due("-1", x.sheet(2, 0, -1), WaxCloth.SIZE);
        Due.due("still nothing", x.drop(2), WaxCloth.NULL);
    }

    private static void fill(WaxCloth x, int sheet, int lane, int n, long v) {
        x.sheet(sheet, lane, n);
        for (int i = 0; i < n; i++) {
            x.item(sheet, lane, i, v);
        }
    }

    /** "a new row of a LANE, of n items 0", whatever was there before. */
    private static void aNewRowIsOfZeros() {
        for (int lane = 0; lane < 4; lane++) {
            WaxCloth x = Due.withCloth(SHOWING);
            fill(x, 0, 3 - lane, 24, 3);
            Due.due("a shorter one", x.sheet(0, lane, 3), 3);
            Due.due("a longer one", x.sheet(0, lane, 24), 24);
            shows(x, 0, lane, new int[24]);
            fill(x, 0, lane, 24, 3);
            x.drop(0);
            x.sheet(0, lane, 24);
            shows(x, 0, lane, new int[24]);
        }
    }

    private static void shows(WaxCloth x, int sheet, int lane, int... items) {
        for (int i = 0; i < items.length; i++) {
            Due.due("item " + i + " of " + Arrays.toString(items), x.ahead(0, sheet, lane, i, 1, 1), items[i]);
        }
        Due.due("not more of them", x.ahead(0, sheet, lane, items.length, 1, 1), WaxCloth.INDEX);
    }

    private static void eachSheetByItself() {
        WaxCloth x = Due.withCloth(SHOWING);
        for (int sheet = 0; sheet < 4; sheet++) {
            fill(x, sheet, sheet, 2 + sheet, sheet);
        }
        x.item(1, 1, 1, 3);
        shows(x, 0, 0, 0, 0);
        shows(x, 1, 1, 1, 3, 1);
        shows(x, 2, 2, 2, 2, 2, 2);
        shows(x, 3, 3, 3, 3, 3, 3, 3);
        for (int sheet = 0; sheet < 4; sheet++) {
            for (int lane = 0; lane < 4; lane++) {
                Due.due("as a LANE", x.item(sheet, lane, 0, 1), lane == sheet ? 1 : WaxCloth.CAST);
            }
            Due.due("drop", x.drop(sheet), 2 + sheet);
        }
    }

    /** "becomes v, its lowest bits: what it is then". */
    private static void lowestBits() {
        WaxCloth x = Due.withCloth(SHOWING);
        for (int lane = 0; lane < 4; lane++) {
            int bits = 8 << lane;
            long most = lane == 3 ? Long.MAX_VALUE : (1L << bits - 1) - 1;
            long least = -most - 1;
            x.sheet(lane, lane, 1);
            Due.due("the most", x.item(lane, lane, 0, most), most);
            Due.due("the least", x.item(lane, lane, 0, least), least);
            Due.due("one more than the most", x.item(lane, lane, 0, most + 1), least);
            Due.due("one less than the least", x.item(lane, lane, 0, least - 1), most);
            Due.due("-1", x.item(lane, lane, 0, -1), -1);
            Due.due("the greatest long", x.item(lane, lane, 0, Long.MAX_VALUE), lane == 3 ? Long.MAX_VALUE : -1);
            Due.due("the least long", x.item(lane, lane, 0, Long.MIN_VALUE), lane == 3 ? Long.MIN_VALUE : 0);
            long wrapped = lane == 3 ? 2 : (5L << bits) + 2;
            Due.due("beyond it, and 2", x.item(lane, lane, 0, wrapped), 2);
            Due.due("what it is then is what is kept", x.ahead(0, lane, lane, 0, 1, 1), 2);
        }
    }

    /** "n items .. from i on come to another one from j on": all n, i, j around the ends of both. */
    private static void copiesOfEachLength() {
        for (int n = -1; n <= 5; n++) {
            for (int i = -1; i <= 5; i++) {
                for (int j = -1; j <= 5; j++) {
                    copyOf(n, i, j, 1);
                    copyOf(n, i, j, 0);
                }
            }
        }
    }

    private static void copyOf(int n, int i, int j, int to) {
        int[][] items = {{1, 2, 3, 0}, {3, 3, 3}};
        WaxCloth x = Due.withCloth(SHOWING);
        for (int sheet = 0; sheet < 2; sheet++) {
            x.sheet(sheet, 2, items[sheet].length);
            for (int k = 0; k < items[sheet].length; k++) {
                x.item(sheet, 2, k, items[sheet][k]);
            }
        }
        boolean fits = n >= 0 && i >= 0 && j >= 0 && i + n <= 4 && j + n <= items[to].length;
        Due.due("copy " + n + " from " + i + " to " + j + " of " + to, x.copy(0, i, to, j, n), fits ? n : WaxCloth.INDEX);
        int[] taken = items[0].clone();
        for (int k = 0; k < n && fits; k++) {
            items[to][j + k] = taken[i + k];
        }
        shows(x, 0, 2, items[0]);
        shows(x, 1, 2, items[1]);
    }

    /** "as if all were taken ahead"; "INDEX (n below 0, too)", where sums would go beyond an int. */
    private static void copiesWithinARow() {
        WaxCloth x = Due.withCloth(SHOWING);
        x.sheet(0, 0, 24);
        for (int i = 0; i < 24; i++) {
            x.item(0, 0, i, i % 4);
        }
        Due.due("all of it onto itself", x.copy(0, 0, 0, 0, 24), 24);
        Due.due("by one to the right", x.copy(0, 0, 0, 1, 23), 23);
        int[] items = new int[24];
        for (int i = 1; i < 24; i++) {
            items[i] = (i - 1) % 4;
        }
        shows(x, 0, 0, items);
        Due.due("by one to the left", x.copy(0, 1, 0, 0, 23), 23);
        Due.due("25", x.copy(0, 0, 0, 0, 25), WaxCloth.INDEX);
        int[][] beyond = {{1, 0, GREATEST}, {0, 1, GREATEST}, {GREATEST, 0, 1}, {0, GREATEST, 1}, {GREATEST, GREATEST, 2},
            {LEAST, 0, 1}, {0, LEAST, 1}, {0, 0, LEAST}, {LEAST, LEAST, LEAST}, {24, 0, 1}, {0, 24, 1}, {25, 0, 0}, {0, 25, 0}, {-1, 0, 0}};
        for (int[] wrong : beyond) {
            Due.due("copy " + Arrays.toString(wrong), x.copy(0, wrong[0], 0, wrong[1], wrong[2]), WaxCloth.INDEX);
        }
        Due.due("none at the end", x.copy(0, 24, 0, 24, 0), 0);
        for (int i = 0; i < 23; i++) {
            items[i] = i % 4;
        }
        items[23] = 22 % 4;
        shows(x, 0, 0, items);
    }

    /** "CAST: of unlike LANES". */
    private static void copiesOfEachLane() {
        for (int from = 0; from < 4; from++) {
            for (int to = 0; to < 4; to++) {
                WaxCloth x = Due.withCloth(SHOWING);
                fill(x, 0, from, 1, 3);
                fill(x, 1, to, 1, 1);
                Due.due("LANE " + from + " to " + to, x.copy(0, 0, 1, 0, 1), from == to ? 1 : WaxCloth.CAST);
                shows(x, 1, to, from == to ? 3 : 1);
            }
        }
        WaxCloth far = new WaxCloth();
        fill(far, 0, 3, 3, Long.MIN_VALUE);
        fill(far, 1, 3, 3, 0);
        far.copy(0, 0, 1, 0, 1);
        Due.due("a long is copied whole: no amount", far.kinds(1, 3, 0, 1, -1), WaxCloth.NOT);
    }

    /** "HUE of each SQUARE, an item each, comes to a SHEET .. from i on". */
    private static void logsWhereTheyFit() {
        for (int lane = 0; lane < 4; lane++) {
            WaxCloth x = Due.withCloth(EIGHT);
            x.does(11);
            x.does(0);
            for (int n : new int[] {0, 1, 7, 8, 9, 24}) {
                x.sheet(0, lane, n);
                Due.due("8 SQUARES to " + n, x.log(0, lane, 0), n >= 8 ? 8 : WaxCloth.INDEX);
                Due.due("one beyond the last place", x.log(0, lane, Math.max(0, n - 7)), WaxCloth.INDEX);
            }
            Due.due("the last place", x.log(0, lane, 16), 8);
            Due.due("HUES 0 7 0 7 0 7 0 7", x.wishes(0, lane, 16), 255);
            Due.due("0 to 7 were written before", x.wishes(0, lane, 0), 255);
            Due.due("8 to 15 were not: where the HUE is 0", x.wishes(0, lane, 8), 0x55);
            for (int wrong : new int[] {17, 24, 25, -1, LEAST, GREATEST}) {
                Due.due("log at " + wrong, x.log(0, lane, wrong), WaxCloth.INDEX);
            }
        }
        WaxCloth one = Due.withCloth(SHOWING);
        one.sheet(0, 0, 24);
        Due.due("one SQUARE, the last item", one.log(0, 0, 23), 1);
        Due.due("beyond it", one.log(0, 0, 24), WaxCloth.INDEX);
        fill(one, 0, 0, 3, 3);
        one.does(1);
        Due.due("one item", one.log(0, 0, 1), 1);
        one.undo();
        shows(one, 0, 0, 3, 1, 3);
    }

    /** "by as many items as there are SQUARES"; an item that is no HUE is no SQUARE's. */
    private static void wishesWhereTheyFit() {
        for (int lane = 0; lane < 4; lane++) {
            WaxCloth x = Due.withCloth(EIGHT);
            x.sheet(1, lane, 24);
            for (int i : new int[] {0, 8, 16}) {
                Due.due("white is 0", x.wishes(1, lane, i), 255);
            }
            for (int wrong : new int[] {17, 24, 25, -1, LEAST, GREATEST}) {
                Due.due("wishes at " + wrong, x.wishes(1, lane, wrong), WaxCloth.INDEX);
            }
            long[] noHues = {-1, 8, 7, 1, 127, -128, 16, 64};
            for (int i = 0; i < 8; i++) {
                x.item(1, lane, i, noHues[i]);
            }
            Due.due("none of them is white", x.wishes(1, lane, 0), 0);
            x.does(0);
            Due.due("one of them is 7", x.wishes(1, lane, 0), 4);
            x.item(1, lane, 7, 7);
            Due.due("the last SQUARE", x.wishes(1, lane, 0), 4 + 128);
            Due.due("WISHED is not what is asked", x.count(4), 0);
            x.sheet(1, lane, 7);
            Due.due("too short", x.wishes(1, lane, 0), WaxCloth.INDEX);
        }
        WaxCloth far = Due.withCloth(SHOWING);
        fill(far, 0, 3, 1, 1L << 32);
        Due.due("2 to the 32nd is not 0", far.wishes(0, 3, 0), 0);
        fill(far, 0, 2, 1, 1L << 32);
        Due.due("its lowest bits are", far.wishes(0, 2, 0), 1);
    }

    /** "NOT: an item that is no DOING": each number around those that are, and some far from all. */
    private static void itemsThatAreDoings() {
        long[] far = {1L << 32, (1L << 32) + 20, (1L << 40) + 10, -(1L << 32), Long.MIN_VALUE, Long.MAX_VALUE, LEAST, GREATEST};
        for (int most = 0; most < 2; most++) {
            WaxCloth x = Due.withCloth(most == 0 ? "wc0;100;0" : "wc0;100,010,001,111;0,0,0");
            x.sheet(0, 3, 1);
            for (int doing = -2; doing <= 32; doing++) {
                boolean bath = doing >= 0 && doing <= 3 * most;
                boolean stencil = doing >= 10 && doing <= 10 + 2 * most;
                isDoing(x, doing, bath || stencil || doing == 20 || doing == 21);
            }
            for (long doing : far) {
                isDoing(x, doing, false);
            }
        }
    }

    private static void isDoing(WaxCloth x, long doing, boolean is) {
        x.item(0, 3, 0, doing);
        Due.due("ahead by " + doing, x.ahead(0, 0, 3, 0, 1, 2) >= 0 ? 0 : WaxCloth.NOT, is ? 0 : WaxCloth.NOT);
        Due.due("round by " + doing, x.round(0, 3, 0, 1, 1) >= 0 ? 1 : WaxCloth.NOT, is ? 1 : WaxCloth.NOT);
    }

    /** What lies ahead of i, or behind n items, is not looked at. */
    private static void onlyTheItemsAskedFor() {
        WaxCloth x = Due.withCloth("wc0;100;0");
        Due.lane(x, 0, 0, 5, 0, 0, 0, 5);
        Due.due("ahead", x.ahead(0, 0, 0, 1, 3, 1), 3);
        Due.due("round", x.round(0, 0, 1, 3, 0), 3);
        for (int[] wrong : new int[][] {{0, 4}, {1, 4}, {0, 1}, {4, 1}, {0, 5}}) {
            Due.due("ahead, one of them", x.ahead(0, 0, 0, wrong[0], wrong[1], 1), WaxCloth.NOT);
            Due.due("round, one of them", x.round(0, 0, wrong[0], wrong[1], 0), WaxCloth.NOT);
        }
        Due.lane(x, 1, 0, 10, 0, 0, 0, 10);
        Due.due("kinds", x.kinds(1, 0, 1, 1, -1), 62);
        Due.due("kinds, the first is wrong", x.kinds(1, 0, 0, 1, -1), WaxCloth.NOT);
        Due.due("kinds, how much it TOOK may be anything", x.kinds(1, 0, 2, 1, -1), 0);
    }

    /** "Behind n DOINGS (0 .. 20)". */
    private static void aheadOfNoneAndTwenty() {
        WaxCloth x = Due.withCloth("wc0;111;0");
        x.does(0);
        x.does(10);
        x.sheet(0, 0, 0);
        Due.due("none of an empty row, HUE", x.ahead(0, 0, 0, 0, 0, 0), 7);
        Due.due("none of an empty row, DARK", x.ahead(0, 0, 0, 0, 0, 1), 3);
        Due.due("none of an empty row, WAX", x.ahead(0, 0, 0, 0, 0, 2), 3);
        Due.due("none beyond it", x.ahead(0, 0, 0, 1, 0, 0), WaxCloth.INDEX);
        Due.due("one of an empty row", x.ahead(0, 0, 0, 0, 1, 0), WaxCloth.INDEX);
        Due.due("21 of an empty row", x.ahead(0, 0, 0, 0, 21, 0), WaxCloth.BAD);
        x.sheet(0, 0, 24);
        for (int n = 0; n <= 20; n++) {
            Due.due("DARK behind " + n, x.ahead(0, 0, 0, 0, n, 1), 3 + 3 * Math.min(8, Math.max(0, n - 3)));
            Due.due("WAX behind " + n, x.ahead(0, 0, 0, 24 - n, n, 2), Math.max(0, 3 - n));
            Due.due("one beyond " + n, x.ahead(0, 0, 0, 25 - n, n, 2), WaxCloth.INDEX);
        }
        Due.due("21", x.ahead(0, 0, 0, 0, 21, 1), WaxCloth.BAD);
        x.item(0, 0, 23, 21);
        Due.due("the 20th is done, too", x.ahead(0, 0, 0, 4, 20, 1), 24);
        x.item(0, 0, 4, 20);
        Due.due("and the first", x.ahead(0, 0, 0, 4, 4, 1), 12);
    }

    private static void round(WaxCloth x, int i, int n, int lead, int lap) {
        Due.due("ahead of the round of " + n + " from " + i, x.round(0, 0, i, n, 0), lead);
        Due.due("between, of " + n + " from " + i, x.round(0, 0, i, n, 1), lap);
    }

    /** "ROUND by n DOINGS (1 .. 20)". */
    private static void roundsOfOneAndTwenty() {
        WaxCloth x = Due.withCloth("wc0;100;0");
        x.sheet(0, 0, 24);
        // by n at a time up to 9
        for (int n = 1; n <= 20; n++) {
            round(x, 24 - n, n, (9 + n - 1) / n, 1);
            Due.due("one beyond " + n, x.round(0, 0, 25 - n, n, 0), WaxCloth.INDEX);
        }
        Due.due("0", x.round(0, 0, 0, 0, 0), WaxCloth.BAD);
        Due.due("21", x.round(0, 0, 0, 21, 0), WaxCloth.BAD);
        x.item(0, 0, 19, 20);
        x.item(0, 0, 18, 21);
        round(x, 0, 20, 1, 1);
        x.sheet(0, 0, 0);
        Due.due("an empty row", x.round(0, 0, 0, 1, 0), WaxCloth.INDEX);
    }

    /** "(its COLOURS, its WAX)": the CLOTH is as it was only if both are, on each SQUARE. */
    private static void roundsOfWaxAndColours() {
        WaxCloth x = Due.withCloth("wc0,w0,f0,s0;100,300,001;0,3,1");
        Due.lane(x, 0, 0, 20, 10, 11, 21, 12, 1, 21, 2);
        round(x, 0, 1, 0, 1);
        round(x, 1, 1, 1, 1);
        round(x, 3, 1, 0, 1);
        // SILK by 4, COTTON by 3, WOOL and FELT by 2: WOOL is the last to have 9
        round(x, 5, 1, 5, 1);
        // 1 less each time: FELT goes to and fro between 3 and 4, WOOL has 8 behind eight times
        round(x, 5, 2, 8, 2);
        x.does(12);
        // under WAX WOOL stays as it is; the others come to their ends
        round(x, 5, 1, 3, 1);
        x.does(1);
        x.does(1);
        x.does(1);
        round(x, 5, 1, 0, 1);
        x.does(10);
        // only WAX goes on: three BATHS take it off
        round(x, 5, 1, 3, 1);
    }

    /** "how much there was 0 to 9, how much was in the bath 0 to 3, how much it TOOK may be anything". */
    private static void triplesAtTheirEnds() {
        WaxCloth x = new WaxCloth();
        x.sheet(0, 3, 3);
        long[] far = {10, 11, -1, LEAST, GREATEST, 1L << 32, Long.MIN_VALUE, Long.MAX_VALUE};
        for (long wrong : far) {
            triple(x, wrong, 0, 0, WaxCloth.NOT);
            triple(x, 0, wrong, 0, WaxCloth.NOT);
            triple(x, 0, 0, wrong, 0);
        }
        triple(x, 0, 4, 0, WaxCloth.NOT);
        triple(x, 9, 3, 3, 2);
        triple(x, 9, 3, 4, 8);
        triple(x, 9, 3, 2, 4 + 16);
        triple(x, 9, 3, 0, 32);
        triple(x, 9, 0, 0, 62);
        triple(x, 0, 3, 2, 4 + 16 + 32);
        triple(x, 3, 3, 2, 4 + 16 + 32);
        triple(x, 4, 3, 2, 4 + 16);
        triple(x, 3, 3, 0, 0);
        triple(x, 4, 3, 0, 32);
        triple(x, 0, 3, 5, 0);
        triple(x, 0, 3, (1L << 32) + 3, 0);
    }

    private static void triple(WaxCloth x, long had, long bath, long took, int want) {
        x.item(0, 3, 0, had);
        x.item(0, 3, 1, bath);
        x.item(0, 3, 2, took);
        String what = "KINDS by " + had + " " + bath + " " + took;
        Due.due(what, x.kinds(0, 3, 0, 1, -1), want);
        Due.due(what + ", TRY", x.kinds(0, 3, 0, 1, 9) > 0 ? 1 : x.kinds(0, 3, 0, 1, 9),
            want == WaxCloth.NOT ? WaxCloth.NOT : want == 0 ? WaxCloth.NONE : 1);
    }

    /** "KINDS by n triples (1 to 7)": each of them counts, the last among them. */
    private static void oneToSevenTriples() {
        for (int n = 1; n <= 7; n++) {
            WaxCloth x = new WaxCloth();
            x.sheet(0, 0, 24);
            int last = 3 * n - 3;
            Due.due("all, of " + n, x.kinds(0, 0, 0, n, -1), 62);
            x.item(0, 0, last + 1, 3);
            x.item(0, 0, last + 2, 4);
            Due.due("SILK by the last of " + n, x.kinds(0, 0, 0, n, -1), 8);
            x.item(0, 0, last + 1, 4);
            Due.due("the last of " + n + " is none", x.kinds(0, 0, 0, n, -1), WaxCloth.NOT);
            x.item(0, 0, last + 1, 0);
            x.item(0, 0, last + 2, 0);
            Due.due("the last place of " + n, x.kinds(0, 0, 24 - 3 * n, n, -1), 62);
            Due.due("one beyond", x.kinds(0, 0, 25 - 3 * n, n, -1), WaxCloth.INDEX);
        }
        WaxCloth x = new WaxCloth();
        x.sheet(0, 0, 24);
        Due.due("0", x.kinds(0, 0, 0, 0, -1), WaxCloth.BAD);
        Due.due("8, though there are 24 items", x.kinds(0, 0, 0, 8, -1), WaxCloth.BAD);
        x.sheet(0, 0, 2);
        Due.due("two items are no triple", x.kinds(0, 0, 0, 1, -1), WaxCloth.INDEX);
    }

    /** "so that the greatest part of these that TAKES as much is least, of like ones the least". */
    private static void triesAtTheirEnds() {
        for (int had = 0; had <= 9; had++) {
            // all five: with 3 in the bath COTTON and SILK are told from LINEN, WOOL (and FELT)
            tries(had, 62, 3, 0, 0, 0);
            // COTTON, LINEN, WOOL: only 3 tells COTTON from the others
            tries(had, 22, 3, 4, 1, 1);
            // LINEN and WOOL always TAKE as much
            tries(had, 20, 1, 4, 3, 2);
            tries(had, 52, 1, 0, 3, 2);
            tries(had, 8, 1, 0, 1, 2);
            tries(had, 0, WaxCloth.NONE, 0, 1, 0);
        }
        WaxCloth x = new WaxCloth();
        Due.lane(x, 0, 0, 0, 1, 1);
        Due.due("all but SILK", x.kinds(0, 0, 0, 1, -1), 54);
        // {COTTON, LINEN, WOOL} and FELT: three by 1 and by 2, two by 3
        Due.due("from 4 on", x.kinds(0, 0, 0, 1, 4), 3);
        Due.due("below 4", x.kinds(0, 0, 0, 1, 3), 3);
    }

    private static void tries(int had, int kinds, int due, long... triple) {
        WaxCloth x = new WaxCloth();
        Due.lane(x, 0, 1, triple);
        Due.due("KINDS", x.kinds(0, 1, 0, 1, -1), kinds);
        Due.due("TRY of " + kinds + ", there being " + had, x.kinds(0, 1, 0, 1, had), due);
    }

    private static void copiesThatChangeNothing() {
        Twin.changesNothing("copy of none", Twin::rich, x -> x.copy(0, 8, 2, 0, 0), 0);
        Twin.changesNothing("copy onto itself", Twin::rich, x -> x.copy(0, 0, 0, 0, 8), 8);
    }
}
