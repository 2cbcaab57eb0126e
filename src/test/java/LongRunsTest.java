import java.util.Arrays;
import java.util.Map;
import java.util.Random;
import java.util.TreeMap;

/**
 * All promises: runs of 512 calls on one object in which calls of all four parts follow each other,
 * nearly all of them such as can be answered; each answer is held against the Model's. A TAPE comes
 * byte by byte between the other calls.
 */
public final class LongRunsTest {
    private static final int RUNS = 300;
    private static final int CALLS = 512;
    private static final String[][] PARTS = {
        {"feed", "feed", "square", "square", "as", "dye", "stencil", "takes"},
        {"does", "does", "does", "does", "does", "does", "does", "undo", "wish", "wish", "image", "restore"},
        {"plan", "rows", "shades", "cracks", "decades"},
        {"sheet", "drop", "item", "copy", "copy", "log", "log", "ahead", "ahead", "ahead", "round", "round", "kinds", "kinds",
            "wishes", "wishes", "count"}};
    private static final int DOINGS = 0, TRIPLES = 1, HUES = 2;
    /** Of those that are asked for at all so many of a hundred have an answer, not a refusal. */
    private static final int MOSTLY = 50;

    private static final Map<String, int[]> ASKED = new TreeMap<>();
    private static Random random;
    private static WaxCloth x;
    private static Model model;
    private static int run;
    private static int calls;
    private static String coming;
    private static int[] purpose;

    public static void main(String[] args) {
        for (run = 0; run < RUNS; run++) {
            oneRun();
        }
        for (Map.Entry<String, int[]> asked : ASKED.entrySet()) {
            int[] of = asked.getValue();
            Due.due(asked.getKey() + " is mostly answered: " + of[1] + " of " + of[0], 100L * of[1] >= (long) MOSTLY * of[0] ? 1 : 0, 1);
        }
        Due.due("all calls are among them", ASKED.size(), 27);
        Due.end();
    }

    private static void oneRun() {
        random = new Random(7000 + run);
        x = new WaxCloth();
        model = new Model();
        calls = 0;
        coming = tape();
        purpose = new int[4];
        while (!coming.isEmpty()) {
            feed();
        }
        feed();
        for (int sheet = 0; sheet < 3; sheet++) {
            fill(sheet, sheet);
        }
        boolean[] parts = new boolean[PARTS.length];
        while (calls < CALLS) {
            int part = random.nextInt(PARTS.length);
            parts[part] = true;
            step(PARTS[part][random.nextInt(PARTS[part].length)]);
        }
        Due.due("calls of run " + run, calls, CALLS);
        Due.due("parts of run " + run, parts[0] && parts[1] && parts[2] && parts[3] ? 1 : 0, 1);
    }

    private static void step(String name) {
        switch (name) {
            case "feed": feed(); break;
            case "drop": drop(random.nextInt(4)); break;
            case "wish": wish(); break;
            case "cracks": cracks(); break;
            case "sheet": fill(random.nextInt(4), random.nextInt(3)); break;
            case "item": item(random.nextInt(4)); break;
            case "copy": copy(); break;
            case "log": case "wishes": hues(name); break;
            case "ahead": case "round": doings(name); break;
            case "kinds": kinds(); break;
            case "rows": rows(); break;
            case "plan": plan(); break;
            default: ask(name, plainly(name)); break;
        }
    }

    private static void ask(String name, long... arguments) {
        if (calls == CALLS) {
            return;
        }
        calls++;
        long want = model.call(name, arguments);
        long got = Calls.call(x, name, arguments);
        Due.due(want == got ? name : "run " + run + ", call " + calls + ": " + name + Arrays.toString(arguments), got, want);
        int[] of = ASKED.computeIfAbsent(name, key -> new int[2]);
        of[0]++;
        of[1] += want >= 0 || name.equals("item") ? 1 : 0;
    }

    /** Mostly within, now and then one beyond. */
    private static int within(int least, int most) {
        if (random.nextInt(40) == 0) {
            return random.nextBoolean() ? least - 1 : most + 1;
        }
        return least + random.nextInt(Math.max(0, most - least) + 1);
    }

    private static int count(int what) {
        return (int) model.call("count", new long[] {what});
    }

    private static int square() {
        return within(0, count(0) - 1);
    }

    private static int dye() {
        return within(0, count(1) - 1);
    }

    /** One of the DOINGS that there are. */
    private static int doing() {
        int nth = random.nextInt(count(1) + count(2) + 2);
        if (nth < count(1)) {
            return nth;
        }
        nth -= count(1);
        return nth < count(2) ? 10 + nth : 20 + nth - count(2);
    }

    private static long[] plainly(String name) {
        switch (name) {
            case "square": return new long[] {square(), within(0, 8)};
            case "as": return new long[] {square(), within(0, random.nextBoolean() ? 1 : 5)};
            case "dye": return new long[] {dye(), within(0, 2)};
            case "stencil": return new long[] {within(0, count(2) - 1)};
            case "takes": return new long[] {square(), dye(), within(0, 2)};
            case "does": return new long[] {random.nextInt(40) == 0 ? within(0, 30) : doing()};
            case "undo": return new long[0];
            case "image": case "restore": return new long[] {within(0, 1)};
            case "shades": return new long[] {square(), within(0, 5)};
            case "decades": return new long[] {within(0, 60), within(1, 999999), within(0, 1)};
            case "count": return new long[] {within(0, 8)};
            default: throw new IllegalArgumentException(name);
        }
    }

    /** The next byte of what is coming; behind its last one it is read. */
    private static void feed() {
        if (coming.isEmpty()) {
            ask("cloth");
            coming = tape();
            return;
        }
        ask("feed", coming.charAt(0));
        coming = coming.substring(1);
    }

    private static String tape() {
        StringBuilder t = new StringBuilder("w");
        int squares = 2 + random.nextInt(7);
        for (int s = 0; s < squares; s++) {
            t.append(s > 0 ? "," : "").append("clswff".charAt(random.nextInt(6))).append(random.nextInt(8));
        }
        int dyes = 1 + random.nextInt(4);
        for (int d = 0; d < dyes; d++) {
            t.append(d > 0 ? "," : ";").append(random.nextInt(4)).append(random.nextInt(4)).append(random.nextInt(4));
        }
        int stencils = 1 + random.nextInt(3);
        for (int s = 0; s < stencils; s++) {
            t.append(s > 0 ? "," : ";");
            int surely = random.nextInt(squares);
            for (int on = 0; on < squares; on++) {
                t.append(on == surely || random.nextInt(3) == 0 ? Integer.toString(on) : "");
            }
        }
        // the first CLOTH of a run is one; of the others some are not
        if (calls > 0 && random.nextInt(4) == 0) {
            t.setCharAt(random.nextInt(t.length()), "w,;0189c ".charAt(random.nextInt(9)));
        }
        return t.toString();
    }

    /** Half of the wishes are for what is there, so that there is something to lose by a BATH. */
    private static void wish() {
        int square = square();
        int hue = (int) model.call("square", new long[] {square, 3});
        ask("wish", square, hue >= 0 && random.nextBoolean() ? hue : within(0, 7));
    }

    /** About as many as are RIGHT now: mostly neither sure nor out of the question. */
    private static void cracks() {
        int right = Integer.bitCount(count(4)) + random.nextInt(3) - 1;
        ask("cracks", dye(), random.nextInt(8) == 0 ? within(0, 8) : right, within(0, 10), within(0, 1));
    }

    /** A plan of 4 takes the Model long, so that it is asked for seldom. */
    private static void plan() {
        int n = random.nextInt(25) == 0 ? 4 : within(0, 3);
        ask("plan", n, within(-2, Math.max(0, n - 2)));
    }

    /** A shade that some row of n BATHS brings, mostly. */
    private static void rows() {
        int square = random.nextInt(count(0));
        String kind = Model.KINDS.get((int) model.call("square", new long[] {square, 0}));
        int n = within(1, 5);
        long[] has = new long[3];
        for (int bath = 0; bath < n; bath++) {
            int dye = random.nextInt(count(1));
            for (int c = 0; c < 3; c++) {
                int amount = (int) model.call("dye", new long[] {dye, c});
                has[c] = Math.min(9, has[c] + Model.take(kind, amount, (int) has[c]));
            }
        }
        ask("rows", square, has[0], has[1], has[2], n, within(-1, n - 1));
    }

    /** A SHEET of such items, if there is one. */
    private static int pick(int wanted) {
        int first = random.nextInt(4);
        for (int s = 0; s < 4; s++) {
            int sheet = (first + s) % 4;
            if (model.itemsOf(sheet) > 0 && purpose[sheet] == wanted) {
                return sheet;
            }
        }
        return first;
    }

    private static int laneOf(int sheet) {
        return random.nextInt(40) == 0 ? within(0, 3) : model.laneOf(sheet);
    }

    private static void fill(int sheet, int with) {
        int n = random.nextInt(4) == 0 ? within(0, 24) : 8 + random.nextInt(6);
        ask("sheet", sheet, within(0, 3), n);
        purpose[sheet] = with;
        int kind = 1 + random.nextInt(5);
        for (int i = 0; i + 2 < model.itemsOf(sheet); i += 3) {
            if (with == TRIPLES) {
                triple(sheet, i, Model.KINDS.get(kind));
            } else {
                item(sheet, i);
                item(sheet, i + 1 + random.nextInt(2));
            }
        }
    }

    /** A SHEET is nothing for a call or two; then it has a row again, mostly. */
    private static void drop(int sheet) {
        ask("drop", sheet);
        if (random.nextInt(3) == 0) {
            step("copy");
        }
        if (random.nextInt(8) > 0) {
            fill(sheet, random.nextBoolean() ? purpose[sheet] : random.nextInt(3));
        }
    }

    private static void triple(int sheet, int i, String kind) {
        int had = random.nextInt(10);
        int bath = random.nextInt(4);
        int took = Model.take(kind, bath, had) + (random.nextInt(20) == 0 ? 1 : 0);
        ask("item", sheet, model.laneOf(sheet), i, had);
        ask("item", sheet, model.laneOf(sheet), i + 1, bath);
        ask("item", sheet, model.laneOf(sheet), i + 2, took);
    }

    private static void item(int sheet) {
        int items = model.itemsOf(sheet);
        if (items >= 3 && purpose[sheet] == TRIPLES) {
            triple(sheet, 3 * random.nextInt(items / 3), Model.KINDS.get(1 + random.nextInt(5)));
        } else {
            item(sheet, within(0, items - 1));
        }
    }

    private static void item(int sheet, int i) {
        long v = purpose[sheet] == DOINGS ? doing() : random.nextInt(8);
        ask("item", sheet, laneOf(sheet), i, random.nextInt(60) == 0 ? random.nextLong() : v);
    }

    private static void copy() {
        int from = pick(random.nextInt(3));
        int to = from;
        for (int s = 0; s < 4; s++) {
            boolean alike = model.itemsOf(s) > 0 && model.laneOf(s) == model.laneOf(from) && purpose[s] == purpose[from];
            to = alike && random.nextBoolean() || random.nextInt(60) == 0 ? s : to;
        }
        int most = Math.min(model.itemsOf(from), model.itemsOf(to));
        int n = within(0, most);
        ask("copy", from, within(0, model.itemsOf(from) - n), to, within(0, model.itemsOf(to) - n), n);
    }

    private static void hues(String name) {
        int sheet = pick(HUES);
        ask(name, sheet, laneOf(sheet), within(0, model.itemsOf(sheet) - count(0)));
    }

    private static void doings(String name) {
        int sheet = pick(DOINGS);
        int n = within(1, Math.min(20, Math.max(1, model.itemsOf(sheet))));
        int i = within(0, model.itemsOf(sheet) - n);
        if (name.equals("ahead")) {
            ask(name, square(), sheet, laneOf(sheet), i, n, within(0, 2));
        } else {
            ask(name, sheet, laneOf(sheet), i, n, within(0, 1));
        }
    }

    private static void kinds() {
        int sheet = pick(TRIPLES);
        int triples = model.itemsOf(sheet) / 3;
        int n = within(1, Math.min(7, triples));
        int i = 3 * random.nextInt(Math.max(0, triples - n) + 1);
        ask("kinds", sheet, laneOf(sheet), i, n, random.nextBoolean() ? -1 : within(-1, 9));
    }
}
