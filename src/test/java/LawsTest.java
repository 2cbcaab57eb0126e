import java.util.ArrayList;
import java.util.List;
import java.util.Random;

/**
 * All promises together, without the Model: what a call answers is held against what other calls
 * answer or do, wherever two sentences of the document speak of the same thing.
 */
public final class LawsTest {
    private static final int STORIES = 300;
    /** What an object is used for at most. */
    private static final int CALLS = 512;
    private static final String LETTERS = " clswf";
    private static final int LONGS = 3;

    private static Random random;
    /** How the object in hand came to be; told again, another one is just as it is. */
    private static String tape;
    private static String[] parts;
    private static List<int[]> steps;
    private static int story;
    private static int roundsSeen;

    public static void main(String[] args) {
        for (story = 0; story < STORIES; story++) {
            random = new Random(900 + story);
            invent();
            countsTellWhatSquaresTell();
            takesTellsWhatABathDoes();
            undoneIsAsItWas();
            restoredIsAsItWas();
            readAgainIsAsNew();
            aPlanBringsWhatItTells();
            noShortRowBringsMore();
            aheadTellsWhatDoingsDo();
            aRoundComesRound();
            rowsBringTheirShade();
            allRowsTogether();
            cracksOfNoneAndOfAll();
            cracksByEachSquare();
            decadesAreDoings();
            logsAreWishes();
            kindsByWhatIsTaken();
            tellingChangesNothing();
        }
        Due.due("rounds short enough to be gone through: " + roundsSeen, roundsSeen > STORIES / 2 ? 1 : 0, 1);
        Due.end();
    }

    private static void invent() {
        StringBuilder t = new StringBuilder("w");
        int squares = 1 + random.nextInt(8);
        for (int s = 0; s < squares; s++) {
            t.append(s > 0 ? "," : "").append(LETTERS.charAt(1 + random.nextInt(5))).append(random.nextInt(8));
        }
        int dyes = 1 + random.nextInt(4);
        for (int d = 0; d < dyes; d++) {
            t.append(d > 0 ? "," : ";").append(random.nextInt(4)).append(random.nextInt(4)).append(random.nextInt(4));
        }
        int stencils = 1 + random.nextInt(3);
        for (int s = 0; s < stencils; s++) {
            t.append(s > 0 ? "," : ";");
            int surely = random.nextInt(squares);
            for (int on = 0; on < squares; on++) {
                t.append(on == surely || random.nextInt(3) == 0 ? Integer.toString(on) : "");
            }
        }
        tape = t.toString();
        parts = tape.substring(1).split(";");
        steps = new ArrayList<>();
        int many = random.nextInt(30);
        for (int n = 0; n < many; n++) {
            boolean wish = random.nextInt(6) == 0;
            steps.add(wish ? new int[] {random.nextInt(squares), random.nextInt(8)} : new int[] {doing()});
        }
    }

    private static int squares() {
        return parts[0].split(",").length;
    }

    private static int dyes() {
        return parts[1].split(",").length;
    }

    private static int stencils() {
        return parts[2].split(",").length;
    }

    /** All DOINGS that there are, by their numbers. */
    private static List<Integer> doings() {
        List<Integer> all = new ArrayList<>();
        for (int d = 0; d < dyes(); d++) {
            all.add(d);
        }
        for (int s = 0; s < stencils(); s++) {
            all.add(10 + s);
        }
        all.add(20);
        all.add(21);
        return all;
    }

    private static int doing() {
        List<Integer> all = doings();
        return all.get(random.nextInt(all.size()));
    }

    private static WaxCloth told() {
        WaxCloth x = Due.withCloth(tape);
        for (int[] step : steps) {
            if (step.length == 1) {
                x.does(step[0]);
            } else {
                x.wish(step[0], step[1]);
            }
        }
        return x;
    }

    private static void law(String what, long got, long want) {
        Due.due(got == want ? what : "story " + story + ": " + what, got, want);
    }

    /** COLOURS and WAX of all SQUARES, as ROUND looks at them. */
    private static String state(WaxCloth x) {
        StringBuilder all = new StringBuilder();
        for (int s = 0; s < squares(); s++) {
            for (int what : new int[] {2, 6, 7, 8}) {
                all.append(x.square(s, what));
            }
        }
        return all.toString();
    }

    /** All that is told of the CLOTH, but not how many DOINGS can be undone. */
    private static String whole(WaxCloth x) {
        StringBuilder all = new StringBuilder(state(x));
        for (int s = 0; s < squares(); s++) {
            all.append(' ').append(x.square(s, 0)).append(x.square(s, 1));
        }
        for (int what = 0; what <= 6; what++) {
            all.append(' ').append(x.count(what));
        }
        for (int d = 0; d < dyes(); d++) {
            all.append(' ').append(x.dye(d, 0)).append(x.dye(d, 1)).append(x.dye(d, 2));
        }
        for (int s = 0; s < stencils(); s++) {
            all.append(' ').append(x.stencil(s));
        }
        return all.toString();
    }

    private static void same(String what, String got, String want) {
        law(got.equals(want) ? what : what + ": " + got + ", due is " + want, got.equals(want) ? 1 : 0, 1);
    }

    private static void countsTellWhatSquaresTell() {
        WaxCloth x = told();
        int right = 0;
        int waxed = 0;
        int dark = 0;
        for (int s = 0; s < squares(); s++) {
            law("DARK is how much of all three", x.square(s, 4), x.square(s, 6) + x.square(s, 7) + x.square(s, 8));
            law("RIGHT if HUE is WISHED", x.square(s, 5), x.square(s, 3) == x.square(s, 1) ? 1 : 0);
            right += x.square(s, 5) << s;
            waxed += x.square(s, 2) > 0 ? 1 << s : 0;
            dark += x.square(s, 4);
        }
        law("RIGHT ones", x.count(4), right);
        law("with WAX", x.count(5), waxed);
        law("how DARK", x.count(6), dark);
        int did = x.does(doing());
        law("RIGHT then", did, x.count(4));
    }

    private static void takesTellsWhatABathDoes() {
        for (int d = 0; d < dyes(); d++) {
            WaxCloth now = told();
            WaxCloth then = told();
            then.does(d);
            for (int s = 0; s < squares(); s++) {
                for (int c = 0; c < 3; c++) {
                    law("takes", now.takes(s, d, c), then.square(s, 6 + c) - now.square(s, 6 + c));
                }
            }
        }
    }

    private static void undoneIsAsItWas() {
        WaxCloth x = told();
        String before = whole(x);
        int couldBe = x.count(7);
        int n = random.nextInt(25);
        for (int d = 0; d < n; d++) {
            x.does(doing());
        }
        int left = Math.min(24, couldBe + n);
        law("can be undone", x.count(7), left);
        for (int d = 0; d < n; d++) {
            law("undo", x.undo(), --left);
        }
        same("undone", whole(x), before);
    }

    private static void restoredIsAsItWas() {
        WaxCloth x = told();
        String before = whole(x);
        int k = random.nextInt(2);
        law("image", x.image(k), x.count(3));
        for (int d = 0; d < 30; d++) {
            x.does(doing());
            x.wish(random.nextInt(squares()), random.nextInt(8));
        }
        if (random.nextBoolean()) {
            Due.cloth(x, "wf7;321;0");
            x.does(0);
        }
        int doings = x.restore(k);
        law("DOINGS of the IMAGE", doings, x.count(3));
        same("restored", whole(x), before);
        law("nothing can be undone", x.undo(), WaxCloth.NONE);
        same("nor was it", whole(x), before);
    }

    private static void readAgainIsAsNew() {
        WaxCloth x = told();
        x.image(0);
        law("read again", Due.cloth(x, tape), squares());
        same("as new", whole(x), whole(Due.withCloth(tape)));
        law("nothing can be undone", x.undo(), WaxCloth.NONE);
        x.restore(0);
        same("the IMAGE stays", whole(x), whole(told()));
    }

    private static void aPlanBringsWhatItTells() {
        for (int n = 0; n <= 4; n++) {
            WaxCloth x = told();
            int right = x.plan(n, -2);
            int length = x.plan(n, -1);
            law("not more than " + n, length >= 0 && length <= n ? 1 : 0, 1);
            law("not more of them", x.plan(n, length), WaxCloth.NONE);
            int[] row = new int[length];
            for (int k = 0; k < length; k++) {
                row[k] = x.plan(n, k);
            }
            int seen = Integer.bitCount(x.count(4));
            for (int k = 0; k < length; k++) {
                law("RIGHT too early in a plan", seen < right ? 1 : 0, 1);
                seen = Integer.bitCount(x.does(row[k]));
            }
            law("RIGHT behind a plan of " + n, seen, right);
        }
    }

    private static void noShortRowBringsMore() {
        List<Integer> best = new ArrayList<>();
        int most = Integer.bitCount(told().count(4));
        for (int first : doings()) {
            WaxCloth x = told();
            int right = Integer.bitCount(x.does(first));
            if (right > most) {
                most = right;
                best = List.of(first);
            }
        }
        for (int first : doings()) {
            for (int second : doings()) {
                WaxCloth x = told();
                x.does(first);
                int right = Integer.bitCount(x.does(second));
                if (right > most) {
                    most = right;
                    best = List.of(first, second);
                }
            }
        }
        WaxCloth x = told();
        law("most RIGHT by two", x.plan(2, -2), most);
        law("how many DOINGS", x.plan(2, -1), best.size());
        for (int k = 0; k < best.size(); k++) {
            law("the " + k + "th", x.plan(2, k), best.get(k));
        }
    }

    private static int[] row(WaxCloth x, int sheet, int n) {
        int[] row = new int[n];
        x.sheet(sheet, LONGS, n);
        for (int d = 0; d < n; d++) {
            row[d] = doing();
            x.item(sheet, LONGS, d, row[d]);
        }
        return row;
    }

    private static void aheadTellsWhatDoingsDo() {
        WaxCloth x = told();
        int n = random.nextInt(21);
        int[] row = row(x, 1, n);
        WaxCloth then = told();
        for (int doing : row) {
            then.does(doing);
        }
        for (int s = 0; s < squares(); s++) {
            law("HUE ahead", x.ahead(s, 1, LONGS, 0, n, 0), then.square(s, 3));
            law("DARK ahead", x.ahead(s, 1, LONGS, 0, n, 1), then.square(s, 4));
            law("WAX ahead", x.ahead(s, 1, LONGS, 0, n, 2), then.square(s, 2));
        }
    }

    private static void aRoundComesRound() {
        WaxCloth x = told();
        int n = 1 + random.nextInt(random.nextBoolean() ? 3 : 20);
        int[] row = row(x, 2, n);
        int lead = x.round(2, LONGS, 0, n, 0);
        int lap = x.round(2, LONGS, 0, n, 1);
        int calls = tape.length() + 1 + steps.size() + (lead + lap + 1) * 4 * squares() + (lead + lap) * n;
        if (calls > CALLS) {
            return;
        }
        roundsSeen++;
        List<String> seen = new ArrayList<>();
        WaxCloth then = told();
        for (int time = 0; time < lead + lap; time++) {
            String state = state(then);
            law("again too early", seen.contains(state) ? 1 : 0, 0);
            seen.add(state);
            for (int doing : row) {
                then.does(doing);
            }
        }
        same("as it was, " + lap + " times later", state(then), lap > 0 ? seen.get(lead) : "");
    }

    private static void rowsBringTheirShade() {
        int n = random.nextInt(6);
        int s = random.nextInt(squares());
        WaxCloth white = Due.withCloth(tape);
        for (int bath = 0; bath < n; bath++) {
            white.does(random.nextInt(dyes()));
        }
        int[] shade = {white.square(s, 6), white.square(s, 7), white.square(s, 8)};
        WaxCloth x = told();
        law("a row that is known", x.rows(s, shade[0], shade[1], shade[2], n, -1) >= 1 ? 1 : 0, 1);
        WaxCloth again = Due.withCloth(tape);
        for (int k = 0; k < n; k++) {
            again.does(x.rows(s, shade[0], shade[1], shade[2], n, k));
        }
        law("not so many", x.rows(s, shade[0], shade[1], shade[2], n, n), WaxCloth.NONE);
        for (int c = 0; c < 3; c++) {
            law("the shade of the first row", again.square(s, 6 + c), shade[c]);
        }
    }

    /** Every row of n BATHS brings some shade; the shades are those that some row brings. */
    private static void allRowsTogether() {
        int n = random.nextInt(4);
        int s = random.nextInt(squares());
        int rows = 0;
        int shades = 0;
        WaxCloth x = null;
        for (int shade = 0; shade < 1000; shade++) {
            x = shade % 300 == 0 ? told() : x;
            int found = x.rows(s, shade / 100, shade / 10 % 10, shade % 10, n, -1);
            rows += found;
            shades += found > 0 ? 1 : 0;
        }
        law("all rows of " + n, rows, Math.round(Math.pow(dyes(), n)));
        law("shades by " + n, told().shades(s, n), shades);
    }

    private static void odds(WaxCloth x, int dye, int right, int q, long above, long below) {
        long got = x.cracks(dye, right, q, 0);
        long of = x.cracks(dye, right, q, 1);
        law("odds of " + right + " by " + q + ": " + got + " of " + of + ", due is " + above + " of " + below, got * below, above * of);
        law("lowest terms of " + got + " and " + of, java.math.BigInteger.valueOf(got).gcd(java.math.BigInteger.valueOf(of)).longValue(), 1);
    }

    /** With q 0 a BATH is all that comes; with q 10 it is as if all were boiled out ahead of it. */
    private static void cracksOfNoneAndOfAll() {
        for (int d = 0; d < dyes(); d++) {
            int none = Integer.bitCount(told().does(d));
            WaxCloth boiled = told();
            boiled.does(20);
            int all = Integer.bitCount(boiled.does(d));
            WaxCloth x = told();
            for (int right = 0; right <= 8; right++) {
                odds(x, d, right, 0, none >= right ? 1 : 0, 1);
                odds(x, d, right, 10, all >= right ? 1 : 0, 1);
            }
        }
    }

    /** A SQUARE by itself, on a CLOTH of its own, with all that was done to it. */
    private static WaxCloth alone(int s) {
        WaxCloth x = Due.withCloth("w" + parts[0].split(",")[s] + ";" + parts[1] + ";0");
        for (int[] step : steps) {
            if (step.length == 2) {
                x.wish(step[0] == s ? 0 : -1, step[1]);
            } else if (step[0] < 10 || step[0] >= 20) {
                x.does(step[0]);
            } else if (parts[2].split(",")[step[0] - 10].contains(Integer.toString(s))) {
                x.does(10);
            }
        }
        return x;
    }

    /** "by itself": the odds of all SQUARES come from those of each. */
    private static void cracksByEachSquare() {
        int dye = random.nextInt(dyes());
        int q = 1 + random.nextInt(9);
        long[] cases = new long[10];
        cases[0] = 1;
        long all = 1;
        for (int s = 0; s < squares(); s++) {
            WaxCloth one = alone(s);
            long right = 10L * one.cracks(dye, 1, q, 0) / one.cracks(dye, 1, q, 1);
            for (int r = s + 1; r >= 0; r--) {
                cases[r] = cases[r] * (10 - right) + (r > 0 ? cases[r - 1] * right : 0);
            }
            all *= 10;
        }
        WaxCloth x = told();
        long orMore = 0;
        for (int right = 8; right >= 0; right--) {
            orMore += cases[right];
            odds(x, dye, right, q, orMore, all);
        }
    }

    private static void decadesAreDoings() {
        int n = random.nextInt(61);
        int seed = 1 + random.nextInt(999999);
        WaxCloth then = told();
        long drawn = seed;
        int right = 0;
        for (int d = 0; d < n; d++) {
            drawn = drawn * 16807 % 2147483647;
            right += Integer.bitCount(then.does(doings().get((int) (drawn / 4 % doings().size()))));
        }
        WaxCloth x = told();
        law("DARK behind decades", x.decades(n, seed, 0), then.count(6));
        law("RIGHT behind each", x.decades(n, seed, 1), right);
    }

    private static void logsAreWishes() {
        WaxCloth x = told();
        int lane = random.nextInt(4);
        x.sheet(0, lane, 24);
        x.sheet(3, lane, squares());
        int i = random.nextInt(25 - squares());
        law("log", x.log(0, lane, i), squares());
        law("HUES as they are", x.wishes(0, lane, i), (1 << squares()) - 1);
        law("copied", x.copy(0, i, 3, 0, squares()), squares());
        law("HUES as they are, elsewhere", x.wishes(3, lane, 0), (1 << squares()) - 1);
        for (int s = 0; s < squares(); s++) {
            x.item(3, lane, s, x.square(s, 1));
        }
        law("WISHED as it is", x.wishes(3, lane, 0), x.count(4));
        for (int s = 0; s < squares(); s++) {
            x.wish(s, x.square(s, 3));
        }
        law("wished as they are: all RIGHT", x.count(4), x.wishes(0, lane, i));
    }

    /** What a SQUARE without WAX takes tells of which KIND it may be: its own is among them. */
    private static void kindsByWhatIsTaken() {
        WaxCloth x = told();
        x.does(20);
        for (int s = 0; s < squares(); s++) {
            x.sheet(0, LONGS, 24);
            int n = 0;
            for (int d = 0; d < dyes() && n < 7; d++) {
                int c = random.nextInt(3);
                int had = x.square(s, 6 + c);
                int took = x.takes(s, d, c);
                if (had + took < 9) {
                    x.item(0, LONGS, 3 * n, had);
                    x.item(0, LONGS, 3 * n + 1, x.dye(d, c));
                    x.item(0, LONGS, 3 * n + 2, took);
                    n++;
                }
            }
            if (n > 0) {
                law("its KIND is among them", x.kinds(0, LONGS, 0, n, -1) >> x.square(s, 0) & 1, 1);
                int bath = x.kinds(0, LONGS, 0, n, random.nextInt(10));
                law("a bath to try", bath >= 1 && bath <= 3 ? 1 : 0, 1);
            }
        }
    }

    /** "FORETOLD from now (nothing changes)". */
    private static void tellingChangesNothing() {
        WaxCloth x = told();
        x.feed('w');
        int[] row = row(x, 0, 12);
        String before = whole(x) + x.count(7) + x.count(8);
        x.plan(3, random.nextInt(3));
        x.rows(0, 2, 0, 0, 3, 0);
        x.shades(0, 4);
        x.cracks(0, 1, 5, 0);
        x.decades(40, 1 + story, 1);
        x.ahead(0, 0, LONGS, 0, 12, 1);
        x.round(0, LONGS, 0, 12, 1);
        x.kinds(0, LONGS, 0, 4, -1);
        x.wishes(0, LONGS, 0);
        x.takes(0, 0, 0);
        x.as(0, 4);
        same("telling", whole(x) + x.count(7) + x.count(8), before);
        WaxCloth then = told();
        for (int doing : row) {
            then.does(doing);
        }
        law("the row is as it was", x.ahead(0, 0, LONGS, 0, 12, 1), then.square(0, 4));
    }
}
