import java.util.Arrays;
import java.util.Random;

/** All promises: random runs of calls, the same at each start, held against the Model. */
public final class RandomTest {
    private static final int RUNS = 400;
    private static final int CALLS = 512;
    private static final String[] NAMES = {"square", "as", "dye", "stencil", "takes", "does", "undo", "wish", "image",
        "restore", "plan", "rows", "shades", "cracks", "decades", "sheet", "drop", "item", "copy", "log", "ahead",
        "round", "kinds", "wishes", "count"};
    /** For each of the names the least and the greatest of each argument that is likely to be as told. */
    private static final int[][] LIKELY = {{0, 4, 0, 8}, {0, 4, 0, 5}, {0, 2, 0, 2}, {0, 2}, {0, 4, 0, 2, 0, 2}, {0, 8},
        {}, {0, 4, 0, 7}, {0, 1}, {0, 1}, {0, 4, -2, 4}, {0, 4, 0, 9, 0, 9, 0, 9, 0, 5, -1, 5}, {0, 4, 0, 5},
        {0, 2, 0, 5, 0, 10, 0, 1}, {0, 60, 1, 999999, 0, 1}, {0, 3, 0, 1, 0, 24}, {0, 3}, {0, 3, 0, 1, 0, 20, -9, 30},
        {0, 3, 0, 6, 0, 3, 0, 6, 0, 8}, {0, 3, 0, 1, 0, 9}, {0, 4, 0, 3, 0, 1, 0, 4, 0, 20, 0, 2},
        {0, 3, 0, 1, 0, 4, 1, 20, 0, 1}, {0, 3, 0, 1, 0, 4, 1, 7, -1, 9}, {0, 3, 0, 1, 0, 9}, {0, 8}};
    /** Those that every CLOTH has, and the likely ones, come first. */
    private static final int[] DOINGS = {0, 21, 10, 20, 1, 2, 3, 11, 12};

    private static Random random;
    private static int calls;

    public static void main(String[] args) {
        for (int run = 0; run < RUNS; run++) {
            random = new Random(run);
            oneRun(run);
        }
        Due.end();
    }

    private static void oneRun(int run) {
        WaxCloth x = new WaxCloth();
        Model model = new Model();
        calls = 0;
        int plans = 0;
        while (calls < CALLS) {
            if (calls == 0 ? run % 16 > 0 : random.nextInt(150) == 0) {
                both(run, x, model, tape());
            }
            int n = random.nextInt(4) == 0 ? 5 : random.nextInt(NAMES.length);
            long[] arguments = arguments(n);
            if (NAMES[n].equals("plan") && arguments[0] > 3 && plans++ > 1) {
                arguments[0] = 2;
            }
            one(run, x, model, NAMES[n], arguments);
            if (NAMES[n].equals("sheet") && arguments[2] <= 24 && random.nextInt(3) > 0) {
                fill(run, x, model, arguments);
            }
        }
    }

    /** What is called behind the last call that is promised is left out. */
    private static void one(int run, WaxCloth x, Model model, String name, long... arguments) {
        if (calls == CALLS) {
            return;
        }
        calls++;
        long want = model.call(name, arguments);
        long got = Calls.call(x, name, arguments);
        Due.due(want == got ? name : "run " + run + ": " + name + Arrays.toString(arguments), got, want);
    }

    private static void both(int run, WaxCloth x, Model model, String tape) {
        for (char c : tape.toCharArray()) {
            one(run, x, model, "feed", c);
        }
        one(run, x, model, "cloth");
    }

    /** Items that calls can make something of: DOINGS, triples, HUES. */
    private static void fill(int run, WaxCloth x, Model model, long[] sheet) {
        boolean triples = random.nextBoolean();
        int likely = random.nextBoolean() ? 5 : DOINGS.length;
        for (int i = 0; i < sheet[2]; i++) {
            long v = triples ? random.nextInt(i % 3 == 0 ? 10 : 4) : DOINGS[random.nextInt(likely)];
            one(run, x, model, "item", sheet[0], sheet[1], i, v);
        }
    }

    private static String tape() {
        StringBuilder t = new StringBuilder("w");
        int squares = 1 + random.nextInt(8);
        for (int s = 0; s < squares; s++) {
            t.append(s > 0 ? "," : "").append("clswff".charAt(random.nextInt(6))).append(random.nextInt(8));
        }
        int dyes = 1 + random.nextInt(4);
        for (int d = 0; d < dyes; d++) {
            t.append(d > 0 ? "," : ";").append(random.nextInt(4)).append(random.nextInt(4)).append(random.nextInt(4));
        }
        int stencils = 1 + random.nextInt(3);
        for (int s = 0; s < stencils; s++) {
            t.append(s > 0 ? "," : ";");
            int before = t.length();
            for (int on = 0; on < squares; on++) {
                t.append(random.nextBoolean() ? Integer.toString(on) : "");
            }
            t.append(t.length() == before ? "0" : "");
        }
        return random.nextInt(3) == 0 ? broken(t) : t.toString();
    }

    private static String broken(StringBuilder t) {
        String signs = "w,;0123478cls ";
        int at = random.nextInt(t.length());
        char sign = signs.charAt(random.nextInt(signs.length()));
        switch (random.nextInt(4)) {
            case 0: t.setCharAt(at, sign); break;
            case 1: t.insert(at, sign); break;
            case 2: t.deleteCharAt(at); break;
            default: t.setLength(at); break;
        }
        return t.toString();
    }

    private static long[] arguments(int name) {
        int[] likely = LIKELY[name];
        long[] a = new long[likely.length / 2];
        boolean wild = random.nextInt(6) == 0;
        for (int i = 0; i < a.length; i++) {
            int least = likely[2 * i];
            int most = likely[2 * i + 1];
            a[i] = least + random.nextInt(most - least + 1);
            if (wild && random.nextInt(a.length) == 0) {
                a[i] = wildly(least, most);
            }
        }
        switch (NAMES[name]) {
            case "does": a[0] = wild ? random.nextInt(30) - 2 : DOINGS[random.nextInt(DOINGS.length)]; break;
            case "rows": shade(a, wild); break;
            case "drop": a[0] = random.nextInt(4) == 0 ? a[0] : -1; break;
            case "item": a[3] = random.nextInt(9) == 0 ? random.nextLong() : a[3]; break;
            default: break;
        }
        return a;
    }

    private static int wildly(int least, int most) {
        int[] wild = {least - 1, most + 1, least, most, Integer.MAX_VALUE, Integer.MIN_VALUE, 1 << 16, Integer.MAX_VALUE - 3};
        return wild[random.nextInt(wild.length)];
    }

    /** Mostly a shade that some row of BATHS can bring. */
    private static void shade(long[] a, boolean wild) {
        int[] amounts = {0, 2, 4, 9};
        for (int c = 1; c <= 3 && !wild; c++) {
            a[c] = random.nextInt(3) == 0 ? a[c] : amounts[random.nextInt(amounts.length)];
        }
    }
}
