import java.util.ArrayList;
import java.util.Arrays;
import java.util.List;
import java.util.Set;
import java.util.function.Supplier;

/**
 * All promises: what each call lets through and what it refuses, argument by argument (the last
 * number on each side, the first beyond it, the least and the greatest int); of each two refusals
 * at once the one that the call names first; and that what is refused changes nothing.
 */
public final class RefusalsTest {
    private static final int BAD = WaxCloth.BAD, NOT = WaxCloth.NOT, NONE = WaxCloth.NONE, NULL = WaxCloth.NULL,
        CAST = WaxCloth.CAST, INDEX = WaxCloth.INDEX, SIZE = WaxCloth.SIZE;
    private static final int LEAST = Integer.MIN_VALUE, GREATEST = Integer.MAX_VALUE;
    private static final int NO_MATTER = 0;
    /** Those that only ask: they change nothing, let through or not. */
    private static final Set<String> ASKING = Set.of("square", "as", "dye", "stencil", "takes", "count", "plan", "rows",
        "shades", "cracks", "decades", "ahead", "round", "kinds", "wishes");
    /** As the promises name them, where a call names several. */
    private static final int[] OF_SHEETS = {BAD, NULL, CAST, INDEX, NOT};

    /** What an argument may be (the first one is taken while others are looked at), and what it may not be. */
    private static final class Argument {
        final long[] fine;
        final List<Long> wrong = new ArrayList<>();
        final List<Integer> refusal = new ArrayList<>();

        Argument(long... fine) {
            this.fine = fine;
        }

        Argument but(int refused, long... values) {
            for (long value : values) {
                wrong.add(value);
                refusal.add(refused);
            }
            return this;
        }
    }

    private static Argument within(int least, int most) {
        return new Argument(least, most).but(BAD, least - 1, most + 1, LEAST, GREATEST);
    }

    /** SHEETS 0 and 2 are alike; 1 is of another LANE. */
    private static Argument sheet() {
        return new Argument(0, 2).but(BAD, -1, 4, LEAST, GREATEST).but(NULL, 3);
    }

    private static Argument lane() {
        return new Argument(0).but(BAD, -1, 4, LEAST, GREATEST).but(CAST, 1, 2, 3);
    }

    private static Argument index(int... fine) {
        return new Argument(Arrays.stream(fine).asLongStream().toArray())
            .but(INDEX, -1, fine[fine.length - 1] + 1, LEAST, GREATEST);
    }

    private static String name;
    private static int[] order;
    private static Argument[] arguments;
    private static Supplier<WaxCloth> maker;
    /** What the state itself is a reason for: NO_MATTER, or the refusal of a call that wants a CLOTH. */
    private static int standing;

    public static void main(String[] args) {
        told();
        doings();
        foretold();
        sheets();
        doingsOfSheets();
        triplesOfSheets();
        Due.end();
    }

    private static void told() {
        call("feed", NO_MATTER, new int[] {BAD}, within(0, 255));
        call("square", BAD, new int[] {BAD}, within(0, 7), within(0, 8));
        call("as", BAD, new int[] {BAD, CAST}, within(0, 7),
            new Argument(0, 1).but(BAD, -1, 6, LEAST, GREATEST).but(CAST, 2, 3, 4, 5));
        call("dye", BAD, new int[] {BAD}, within(0, 3), within(0, 2));
        call("stencil", BAD, new int[] {BAD}, within(0, 2));
        call("takes", BAD, new int[] {BAD}, within(0, 7), within(0, 3), within(0, 2));
        call("count", NO_MATTER, new int[] {BAD}, within(0, 8));
    }

    private static void doings() {
        call("does", BAD, new int[] {BAD},
            new Argument(0, 3, 10, 12, 20, 21).but(BAD, LEAST, -1, 4, 9, 13, 19, 22, GREATEST));
        call("wish", BAD, new int[] {BAD}, within(0, 7), within(0, 7));
        call("image", NOT, new int[] {BAD, NOT}, within(0, 1));
        call("restore", NOT, new int[] {BAD, NOT}, new Argument(0).but(BAD, -1, 2, LEAST, GREATEST).but(NOT, 1));
    }

    private static void foretold() {
        call("plan", NOT, new int[] {BAD, NOT, NONE}, within(0, 4),
            new Argument(-1, -2).but(BAD, -3, LEAST).but(NONE, 0, GREATEST));
        call("rows", BAD, new int[] {BAD, NONE}, within(0, 7), within(0, 9), within(0, 9), within(0, 9), within(0, 5),
            new Argument(-1).but(BAD, -2, LEAST).but(NONE, 0, GREATEST));
        call("shades", BAD, new int[] {BAD}, within(0, 7), within(0, 5));
        call("cracks", BAD, new int[] {BAD}, within(0, 3), within(0, 8), within(0, 10), within(0, 1));
        call("decades", NOT, new int[] {BAD, NOT}, within(0, 60), within(1, 999999), within(0, 1));
    }

    private static void sheets() {
        call("sheet", NO_MATTER, new int[] {BAD, SIZE}, within(0, 3), within(0, 3),
            new Argument(0, 24).but(BAD, 25, GREATEST).but(SIZE, -1, LEAST));
        call("drop", NO_MATTER, OF_SHEETS, sheet());
        call("item", NO_MATTER, OF_SHEETS, sheet(), lane(), index(0, 7), new Argument(5, Long.MIN_VALUE, Long.MAX_VALUE - 128));
        call("copy", NO_MATTER, OF_SHEETS, sheet(), index(0, 4), sheet().but(CAST, 1), index(0, 4),
            new Argument(4, 0, 8).but(INDEX, -1, 9, LEAST, GREATEST));
        call("log", BAD, OF_SHEETS, sheet(), lane(), index(0));
        call("wishes", BAD, OF_SHEETS, sheet(), lane(), index(0));
    }

    /** The items are 0 to 7, of which 0 to 3 are DOINGS. */
    private static void doingsOfSheets() {
        Argument at = new Argument(0).but(INDEX, -1, 5, 8, 9, LEAST, GREATEST).but(NOT, 1);
        call("ahead", BAD, OF_SHEETS, within(0, 7), sheet(), lane(), at,
            new Argument(4, 0).but(BAD, -1, 21, LEAST, GREATEST).but(INDEX, 9, 20).but(NOT, 5, 7), within(0, 2));
        call("round", BAD, OF_SHEETS, sheet(), lane(), at,
            new Argument(4, 1).but(BAD, 0, -1, 21, LEAST, GREATEST).but(INDEX, 9, 20).but(NOT, 5, 7), within(0, 1));
    }

    /** The items are 0 to 7: 3 4 5 is no triple, since 4 can't be in a bath. */
    private static void triplesOfSheets() {
        call("kinds", NO_MATTER, OF_SHEETS, sheet(), lane(),
            new Argument(0, 2).but(INDEX, -1, 6, LEAST, GREATEST).but(NOT, 3, 5),
            new Argument(1).but(BAD, 0, -1, 8, LEAST, GREATEST).but(INDEX, 3, 7),
            new Argument(-1, 0, 9).but(BAD, -2, 10, LEAST, GREATEST));
    }

    private static void call(String called, int withoutCloth, int[] inOrder, Argument... told) {
        name = called;
        order = inOrder;
        arguments = told;
        maker = Twin::rich;
        standing = NO_MATTER;
        all();
        maker = Twin::withoutCloth;
        standing = withoutCloth;
        all();
    }

    private static void all() {
        letThrough();
        for (int one = 0; one < arguments.length; one++) {
            for (int v = 0; v < arguments[one].wrong.size(); v++) {
                long[] values = plain();
                int refused = wrong(values, one, v, standing);
                refused(values, refused);
                pairs(values, one, refused);
            }
        }
    }

    private static void pairs(long[] oneWrong, int one, int refused) {
        for (int other = one + 1; other < arguments.length; other++) {
            for (int v = 0; v < arguments[other].wrong.size(); v++) {
                long[] values = oneWrong.clone();
                refused(values, wrong(values, other, v, refused));
            }
        }
    }

    private static long[] plain() {
        long[] values = new long[arguments.length];
        for (int a = 0; a < values.length; a++) {
            values[a] = arguments[a].fine[0];
        }
        return values;
    }

    /** Puts a wrong value among the others: the refusal that is due, there being another one already. */
    private static int wrong(long[] values, int argument, int v, int already) {
        values[argument] = arguments[argument].wrong.get(v);
        int refusal = arguments[argument].refusal.get(v);
        for (int first : order) {
            if (first == refusal || first == already) {
                return first;
            }
        }
        throw new IllegalArgumentException(name + " does not name " + refusal);
    }

    private static void refused(long[] values, int refusal) {
        String what = name + Arrays.toString(values) + (maker.get().count(0) == 0 ? " without a CLOTH" : "");
        Twin.changesNothing(what, maker, x -> Calls.call(x, name, values), refusal);
    }

    private static void letThrough() {
        for (int a = 0; a < arguments.length; a++) {
            for (long value : arguments[a].fine) {
                long[] values = plain();
                values[a] = value;
                if (standing != NO_MATTER) {
                    refused(values, standing);
                } else {
                    answered(values);
                }
            }
        }
    }

    private static void answered(long[] values) {
        WaxCloth x = maker.get();
        String what = name + Arrays.toString(values);
        long answer = Calls.call(x, name, values);
        Due.due(what + " is let through: " + answer, answer < 0 ? 1 : 0, 0);
        if (ASKING.contains(name)) {
            Twin.alike(what, x, maker.get());
        }
    }
}
