/** The boundaries of what is FORETOLD (terms 3, promises 14 to 18), sentence by sentence. */
public final class ForetoldEdgesTest {
    private static final int GREATEST = Integer.MAX_VALUE;
    private static final String EIGHT_RED = "wc1,c1,c1,c1,c1,c1,c1,c1;100;01234567,0123";

    public static void main(String[] args) {
        plansAsLongAsLetThrough();
        fewerFirst();
        ofAsManyTheFirst();
        doingsSuchAsThereAre();
        plansFromNow();
        kOfAPlan();
        rowsOfEachLength();
        rowsOfTheMost();
        firstRowByNumbers();
        kOfARow();
        shadesOfEachLength();
        cracksByTenths();
        cracksOfNoneAndAll();
        cracksInLowestTerms();
        cracksOfEachLayer();
        decadesOfEachLength();
        seedsAtTheirEnds();
        drawsOfEachDoing();
        Due.end();
    }

    private static void plan(WaxCloth x, int n, int right, int... row) {
        String what = "plan of " + n + " at most, ";
        Due.due(what + "RIGHT", x.plan(n, -2), right);
        Due.due(what + "DOINGS", x.plan(n, -1), row.length);
        for (int k = 0; k < row.length; k++) {
            Due.due(what + "the " + k + "th", x.plan(n, k), row[k]);
        }
        for (int k = row.length; k <= 5; k++) {
            Due.due(what + "NONE at " + k, x.plan(n, k), WaxCloth.NONE);
        }
        Due.due(what + "NONE at the greatest", x.plan(n, GREATEST), WaxCloth.NONE);
    }

    /** "n (0 to 4)": what wants just so many DOINGS is found with so many, and not with one less. */
    private static void plansAsLongAsLetThrough() {
        String[] cloths = {"wc0;200;0", "wc1;200;0", "wc0,c1;200;0", "wc0,c1;100;1", "wc0,c1;200;1"};
        int[][] rows = {{}, {0}, {10, 0}, {0, 10, 21}, {0, 10, 21, 21}};
        int[] rightAtFirst = {1, 0, 1, 1, 1};
        for (int length = 0; length <= 4; length++) {
            WaxCloth x = Due.withCloth(cloths[length]);
            for (int n = 0; n < length; n++) {
                plan(x, n, rightAtFirst[length]);
            }
            for (int n = length; n <= 4; n++) {
                plan(x, n, x.count(0), rows[length]);
            }
        }
        // one that wants five is not found: three RINSINGS behind a BATH and a STENCIL
        plan(Due.withCloth("wc0,c1;300;1"), 4, 1);
    }

    /** "fewer first": a longer row with a lesser number at its head waits. */
    private static void fewerFirst() {
        plan(Due.after("wc0;100;0", 0), 4, 1, 21);
        plan(Due.after("wc3;100,110;0"), 4, 1, 1);
        // a longer row only if more are RIGHT by it
        plan(Due.withCloth("wc1,c2;100,010;0,1"), 3, 1, 0);
        plan(Due.withCloth("wc1,c2;100,010;0,1"), 4, 2, 0, 10, 21, 1);
        plan(Due.after("wc1;100;0", 10), 4, 1, 20, 0);
    }

    /** "of as many the first, DOING by DOING by its number". */
    private static void ofAsManyTheFirst() {
        plan(Due.withCloth("wc1;100,200,300,100;0"), 4, 1, 0);
        plan(Due.withCloth("wc1;010,200,300,100;0"), 4, 1, 1);
        plan(Due.withCloth("wc3;100,010,020,200;0"), 4, 1, 0, 1);
        plan(Due.withCloth("wc0,c1;100,200;0,0"), 4, 2, 10, 0);
        plan(Due.withCloth("wc0,c1;100,200;1,0"), 4, 2, 11, 0);
        plan(Due.withCloth("wc0,c1;010,200;1,1,0"), 4, 2, 12, 1);
        // 1 as well as 2 and 3, whose SQUARE is another one
        plan(Due.withCloth("wc4,c2;100,010,001,010;0"), 1, 1, 1);
    }

    /** "(such as there are ..)": neither a DYE nor a STENCIL that the CLOTH has not; the last of all it has. */
    private static void doingsSuchAsThereAre() {
        plan(Due.withCloth("wc2;100;0"), 4, 0);
        plan(Due.withCloth("wc4;100,010,100,001;0"), 4, 1, 3);
        plan(Due.withCloth("wc0,c0,c0,c7;333;0,1,012"), 4, 4, 12, 0);
        plan(Due.withCloth("wc0,c7;333;1"), 2, 1);
        plan(Due.withCloth(EIGHT_RED), 4, 8, 0);
        plan(Due.withCloth("wc1,c1,c1,c1,c1,c1,c1,c0;100;0,01,7"), 4, 8, 12, 0);
    }

    /** "FORETOLD from now": COLOURS, WAX and WISHED as they are. */
    private static void plansFromNow() {
        WaxCloth x = Due.after("wc1,c3;100,010;0", 0, 10);
        plan(x, 4, 2, 1);
        x.wish(0, 0);
        plan(x, 3, 1, 1);
        // three BATHS crack its WAX, the RINSING makes it white
        plan(x, 4, 2, 0, 1, 1, 21);
        x.wish(1, 1);
        plan(x, 0, 1);
        x.undo();
        x.undo();
        plan(x, 4, 2, 10, 0);
        plan(Due.after("wc1;100;0", 10, 0, 0), 4, 1, 0, 0);
        plan(Due.after("ww1;100;0", 10), 1, 0);
    }

    /** "BAD: k below -2, too; NOT: no CLOTH". */
    private static void kOfAPlan() {
        WaxCloth x = Due.withCloth("wc1;100;0");
        Due.due("k -3", x.plan(1, -3), WaxCloth.BAD);
        Due.due("k least", x.plan(1, Integer.MIN_VALUE), WaxCloth.BAD);
        Due.due("k -2", x.plan(1, -2), 1);
        Due.due("k -1", x.plan(1, -1), 1);
        Due.due("k 0", x.plan(1, 0), 0);
        Due.due("k 1", x.plan(1, 1), WaxCloth.NONE);
        WaxCloth none = new WaxCloth();
        for (int k : new int[] {-2, -1, 0, GREATEST}) {
            Due.due("no CLOTH, k " + k, none.plan(0, k), WaxCloth.NOT);
        }
    }

    /** "n (0 to 5)": the one row of n BATHS of one DYE brings n of it, and nothing else does. */
    private static void rowsOfEachLength() {
        WaxCloth x = Due.withCloth("wc0;100;0");
        for (int n = 0; n <= 5; n++) {
            for (int red = 0; red <= 9; red++) {
                Due.due("red " + red + " by " + n, x.rows(0, red, 0, 0, n, -1), red == n ? 1 : 0);
            }
            Due.due("no yellow", x.rows(0, n, 1, 0, n, -1), 0);
            Due.due("no blue", x.rows(0, n, 0, 1, n, -1), 0);
        }
    }

    /** "a shade beyond 0 .. 9": 9 is a shade like others, and more than 9 is 9. */
    private static void rowsOfTheMost() {
        WaxCloth x = Due.withCloth("wc0,s0,f0;333,200;0");
        Due.due("three BATHS of 3", x.rows(0, 9, 9, 9, 3, -1), 1);
        Due.due("one of 2 among four", x.rows(0, 9, 9, 9, 4, -1), 5);
        Due.due("its first", x.rows(0, 9, 9, 9, 4, 3), 0);
        Due.due("9 and 6", x.rows(0, 9, 6, 6, 4, -1), 6);
        Due.due("SILK: 4, 8, 9", x.rows(1, 9, 9, 9, 3, -1), 1);
        Due.due("SILK never has 3", x.rows(1, 3, 0, 0, 5, -1), 0);
        Due.due("FELT has 4, not more", x.rows(2, 4, 4, 4, 5, -1), 10 + 10 + 5 + 1);
        Due.due("FELT never has 6", x.rows(2, 6, 4, 4, 5, -1), 0);
        WaxCloth most = Due.withCloth("wc0;300,300,300,300;0");
        for (int n = 0; n <= 5; n++) {
            Due.due("all rows of " + n, most.rows(0, Math.min(9, 3 * n), 0, 0, n, -1), 1 << 2 * n);
        }
    }

    /** "the k-th DYE of the first (by numbers)". */
    private static void firstRowByNumbers() {
        WaxCloth x = Due.withCloth("wc0;001,010,100,110;0");
        int[] first = {0, 1, 1, 2, 2};
        for (int k = 0; k < 5; k++) {
            Due.due("the " + k + "th", x.rows(0, 2, 2, 1, 5, k), first[k]);
        }
        int[] shorter = {0, 1, 2, 3};
        for (int k = 0; k < 4; k++) {
            Due.due("the " + k + "th of four", x.rows(0, 2, 2, 1, 4, k), shorter[k]);
        }
        Due.due("how many of three", x.rows(0, 2, 2, 1, 3, -1), 3);
        Due.due("the last DYE", x.rows(0, 1, 1, 0, 1, 0), 3);
    }

    /** "(0 on; NONE: there is none, or not so many)". */
    private static void kOfARow() {
        WaxCloth x = Due.withCloth("wc0;100,200;0");
        for (int n = 1; n <= 5; n++) {
            Due.due("the last of " + n, x.rows(0, n, 0, 0, n, n - 1), 0);
            Due.due("one beyond " + n, x.rows(0, n, 0, 0, n, n), WaxCloth.NONE);
            Due.due("the greatest of " + n, x.rows(0, n, 0, 0, n, GREATEST), WaxCloth.NONE);
            Due.due("there is none of " + n, x.rows(0, 0, 0, 0, n, 0), WaxCloth.NONE);
            Due.due("how many, there being none", x.rows(0, 0, 0, 0, n, -1), 0);
        }
        Due.due("k -2", x.rows(0, 1, 0, 0, 1, -2), WaxCloth.BAD);
        Due.due("k least", x.rows(0, 1, 0, 0, 1, Integer.MIN_VALUE), WaxCloth.BAD);
        Due.due("of none, white", x.rows(0, 0, 0, 0, 0, -1), 1);
        Due.due("of none, the 0th", x.rows(0, 0, 0, 0, 0, 0), WaxCloth.NONE);
    }

    private static void shadesOfEachLength() {
        WaxCloth three = Due.withCloth("wc0;000,100,010,001;0");
        int[] upTo = {1, 4, 10, 20, 35, 56};
        WaxCloth capped = Due.withCloth("wc0,f0,s0;000,300;0");
        int[] byThrees = {1, 2, 3, 4, 4, 4};
        int[] felt = {1, 2, 3, 3, 3, 3};
        int[] silk = {1, 2, 3, 4, 4, 4};
        for (int n = 0; n <= 5; n++) {
            Due.due("of " + n, three.shades(0, n), upTo[n]);
            Due.due("0 3 6 9, of " + n, capped.shades(0, n), byThrees[n]);
            Due.due("0 2 4, of " + n, capped.shades(1, n), felt[n]);
            Due.due("0 4 8 9, of " + n, capped.shades(2, n), silk[n]);
        }
        // 9 of the least and the greatest shade: the ends of what is kept of them
        WaxCloth ends = Due.withCloth("ws0;000,333;0");
        Due.due("from 0 0 0 to 9 9 9", ends.shades(0, 3), 4);
        Due.due("again", ends.shades(0, 3), 4);
        WaxCloth waxed = Due.after("wc0,f0,s0;000,300;012", 1, 10);
        Due.due("white, without WAX, whatever it is", waxed.shades(0, 2), 3);
    }

    private static void odds(WaxCloth x, int right, int q, int above, int below) {
        String what = right + " RIGHT by " + q;
        Due.due(what + ", above", x.cracks(0, right, q, 0), above);
        Due.due(what + ", below", x.cracks(0, right, q, 1), below);
    }

    /** "q (0 to 10) of ten": one SQUARE under WAX that is RIGHT if it is dyed, or if it is not. */
    private static void cracksByTenths() {
        int[] above = {0, 1, 1, 3, 2, 1, 3, 7, 4, 9, 1};
        int[] below = {1, 10, 5, 10, 5, 2, 5, 10, 5, 10, 1};
        WaxCloth dyed = Due.after("wc1;100;0", 10);
        WaxCloth kept = Due.after("wc0;100;0", 10);
        WaxCloth never = Due.after("wc2;100;0", 10);
        for (int q = 0; q <= 10; q++) {
            odds(dyed, 1, q, above[q], below[q]);
            odds(kept, 1, q, above[10 - q], below[10 - q]);
            odds(never, 1, q, 0, 1);
            odds(dyed, 0, q, 1, 1);
            odds(dyed, 2, q, 0, 1);
        }
    }

    /** "so many RIGHT (0 .. 8) or more": 0 is sure, more than there are SQUARES is out of the question. */
    private static void cracksOfNoneAndAll() {
        WaxCloth x = Due.withCloth(EIGHT_RED);
        for (int right = 0; right <= 8; right++) {
            odds(x, right, 5, 1, 1);
        }
        x.does(10);
        int[] halves = {1, 255, 247, 219, 163, 93, 37, 9, 1};
        int[] of = {1, 256, 256, 256, 256, 256, 256, 256, 256};
        for (int right = 0; right <= 8; right++) {
            odds(x, right, 5, halves[right], of[right]);
            odds(x, right, 0, right == 0 ? 1 : 0, 1);
            odds(x, right, 10, 1, 1);
        }
        WaxCloth half = Due.after(EIGHT_RED, 11);
        odds(half, 4, 5, 1, 1);
        odds(half, 5, 5, 15, 16);
        odds(half, 8, 5, 1, 16);
    }

    /** "Parts are told in lowest terms"; the greatest of them stays an int. */
    private static void cracksInLowestTerms() {
        WaxCloth x = Due.after(EIGHT_RED, 10);
        odds(x, 8, 1, 1, 100000000);
        odds(x, 8, 9, 43046721, 100000000);
        odds(x, 1, 1, 56953279, 100000000);
        odds(x, 1, 9, 99999999, 100000000);
        odds(x, 8, 2, 1, 390625);
        odds(x, 8, 4, 256, 390625);
        odds(x, 1, 8, 390624, 390625);
    }

    /** "on which there is WAX": of each layer alike; "all of it falls off". */
    private static void cracksOfEachLayer() {
        WaxCloth x = Due.after("wc1;100;0", 10);
        for (int layers = 3; layers >= 1; layers--) {
            Due.due("layers", x.square(0, 2), layers);
            odds(x, 1, 3, 3, 10);
            x.does(0);
        }
        Due.due("no layer", x.square(0, 2), 0);
        odds(x, 1, 3, 1, 1);
        odds(x, 1, 0, 1, 1);
        WaxCloth two = Due.after("wc1,c4;100,001;0", 10);
        Due.due("another DYE, above", two.cracks(1, 2, 5, 0), 0);
        Due.due("another DYE, one", two.cracks(1, 1, 5, 0), 1);
    }

    /** DECADES by an object that does them, one by one, with X counted by hand. */
    private static void decades(String tape, int n, int seed) {
        WaxCloth x = Due.withCloth(tape);
        int dyes = x.count(1);
        int stencils = x.count(2);
        long drawn = seed;
        int right = 0;
        for (int turn = 0; turn < n; turn++) {
            drawn = 16807 * drawn % 2147483647L;
            int nth = (int) (drawn / 4 % (dyes + stencils + 2));
            int doing = nth < dyes ? nth : nth < dyes + stencils ? 10 + nth - dyes : 20 + nth - dyes - stencils;
            right += Integer.bitCount(x.does(doing));
        }
        WaxCloth y = Due.withCloth(tape);
        Due.due("DARK behind " + n + " by " + seed, y.decades(n, seed, 0), x.count(6));
        Due.due("RIGHT behind " + n + " by " + seed, y.decades(n, seed, 1), right);
    }

    /** "n 0 .. 60". */
    private static void decadesOfEachLength() {
        for (int n = 0; n <= 60; n++) {
            decades("wc1,s2,f4,w7;123,310;01,2", n, 4711);
        }
        WaxCloth x = Due.after("wc1;200;0", 0);
        Due.due("no draw: how DARK it is", x.decades(0, 1, 0), 2);
        Due.due("no draw: none behind it", x.decades(0, 1, 1), 0);
    }

    /** "a SEED 1 .. 999999": X goes beyond an int at once with the greatest. */
    private static void seedsAtTheirEnds() {
        for (int seed : new int[] {1, 2, 127773, 127774, 999998, 999999}) {
            for (int n : new int[] {1, 2, 3, 59, 60}) {
                decades("wc1,s2,f4,w7,l3,c5,c6,c0;123,310,002,111;0123,4567,7", n, seed);
                decades("wc1;300;0", n, seed);
            }
        }
    }

    /** "of all DOINGS that there are, by their numbers": the least and the greatest CLOTH, each DOING drawn. */
    private static void drawsOfEachDoing() {
        for (int seed = 1; seed <= 100; seed++) {
            decades("wc1,s1;321;0", 1, seed);
            decades("wc1,s2,f4;321,012,100,020;0,1,012", 3, seed);
        }
    }
}
