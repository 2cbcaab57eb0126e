import java.util.ArrayList;
import java.util.List;
import java.util.function.Supplier;
import java.util.function.ToLongFunction;

/**
 * Two objects made alike, one of which gets a call more: what can be seen of both behind it
 * tells whether that call changed anything.
 */
final class Twin {
    /** How often an undo is asked for at the most: one more than can be undone. */
    private static final int UNDOS = 25;

    private Twin() {
    }

    /** The call answers what is due, and nothing is another by it. */
    static void changesNothing(String what, Supplier<WaxCloth> maker, ToLongFunction<WaxCloth> call, long want) {
        WaxCloth called = maker.get();
        Due.due(what, call.applyAsLong(called), want);
        alike(what, called, maker.get());
    }

    static void alike(String what, WaxCloth called, WaxCloth other) {
        List<Long> got = seen(called);
        List<Long> want = seen(other);
        if (!got.equals(want)) {
            Due.due(what + " changes nothing: " + got + ", due is " + want, 1, 0);
        }
    }

    /**
     * An object with something of everything: SQUARES of all KINDS, WAX of all layers, something to
     * undo, an IMAGE (0) in which the HUE of each SQUARE is its number, and what withoutCloth has.
     */
    static WaxCloth rich() {
        WaxCloth x = Due.withCloth("wc0,l1,s2,w3,f4,c5,l6,s7;300,030,003,111;0246,0145,0123");
        for (int doing : new int[] {10, 0, 20, 11, 1, 20, 12, 2, 20}) {
            x.does(doing);
        }
        x.image(0);
        x.does(12);
        x.does(3);
        x.wish(7, 6);
        fill(x);
        return x;
    }

    /** SHEETS 0 (bytes), 1 (shorts), 2 (bytes) with items 0 to 7 in them, 3 nothing; two bytes on THE TAPE. */
    static WaxCloth withoutCloth() {
        WaxCloth x = new WaxCloth();
        fill(x);
        return x;
    }

    private static void fill(WaxCloth x) {
        x.sheet(0, 0, 8);
        x.sheet(1, 1, 24);
        x.sheet(2, 0, 8);
        for (int i = 0; i < 8; i++) {
            x.item(0, 0, i, i);
            x.item(1, 1, 16 + i, i);
        }
        x.copy(0, 0, 2, 0, 8);
        x.feed('w');
        x.feed('f');
    }

    /** Goes through all that an object holds, in the end by calls that use it up. */
    private static List<Long> seen(WaxCloth x) {
        List<Long> all = new ArrayList<>();
        told(x, all);
        undone(x, all);
        for (int k = 0; k <= 1; k++) {
            note(all, x.restore(1 - k));
            outline(x, all);
        }
        // the IMAGE 0 of rich() is here now: 8 SQUARES whose HUES are those of the items
        rows(x, all, 0);
        rows(x, all, 16);
        tape(x, all);
        // a white SQUARE by itself is here now: which items are 0
        for (int i = 0; i < 24; i++) {
            note(all, x.wishes(1, 1, i));
            if (i < 8) {
                note(all, x.wishes(0, 0, i), x.wishes(2, 0, i));
            }
        }
        for (int sheet = 0; sheet < 4; sheet++) {
            note(all, x.drop(sheet));
        }
        return all;
    }

    private static void told(WaxCloth x, List<Long> all) {
        for (int what = 0; what <= 8; what++) {
            note(all, x.count(what));
            for (int square = 0; square < 8; square++) {
                note(all, x.square(square, what));
            }
        }
        for (int colour = 0; colour < 3; colour++) {
            note(all, x.stencil(colour));
            for (int dye = 0; dye < 4; dye++) {
                note(all, x.dye(dye, colour));
            }
        }
    }

    private static void undone(WaxCloth x, List<Long> all) {
        long left = 0;
        for (int n = 0; n < UNDOS && left >= 0; n++) {
            left = x.undo();
            note(all, left, x.count(3), x.count(4), x.count(5), x.count(6));
        }
    }

    private static void outline(WaxCloth x, List<Long> all) {
        for (int what = 0; what <= 8; what++) {
            note(all, x.count(what));
        }
        for (int square = 0; square < 8; square++) {
            note(all, x.square(square, 1), x.square(square, 4));
        }
    }

    private static void rows(WaxCloth x, List<Long> all, int i) {
        for (int sheet = 0; sheet < 4; sheet++) {
            for (int lane = 0; lane < 4; lane++) {
                note(all, x.wishes(sheet, lane, i));
            }
        }
    }

    /** What THE TAPE of withoutCloth has is the beginning of this. */
    private static void tape(WaxCloth x, List<Long> all) {
        for (char c : "5;123;0".toCharArray()) {
            note(all, x.feed(c));
        }
        note(all, x.cloth(), x.square(0, 0), x.square(0, 1), x.dye(0, 2), x.stencil(0), x.count(8));
    }

    private static void note(List<Long> all, long... answers) {
        for (long answer : answers) {
            all.add(answer);
        }
    }
}
