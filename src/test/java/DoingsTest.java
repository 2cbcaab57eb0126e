/** Promises 9 to 13 and 28: does, undo, wish, image, restore, count. */
public final class DoingsTest {
    public static void main(String[] args) {
        bathsAndWax();
        rinsing();
        wrongDoings();
        undoing();
        wishing();
        images();
        counts();
        Due.end();
    }

    private static void bathsAndWax() {
        WaxCloth x = Due.withCloth("wc1,l1,s1,w1,f1,c1;100,031;01234,5");
        Due.due("a STENCIL", x.does(10), 0);
        int[] cracked = {1, 1, 2, 0, 1};
        for (int bath = 1; bath <= 4; bath++) {
            Due.due("BATH " + bath + ", RIGHT", x.does(0) & 32, 32);
            for (int s = 0; s < 5; s++) {
                int layers = Math.max(0, 3 - bath * cracked[s]);
                Due.due("WAX of " + s + " behind " + bath, x.square(s, 2), layers);
                Due.due("the BATH that cracks dyes nothing: " + s, x.square(s, 4) > 0 ? 1 : 0, bath * cracked[s] > (s == 2 ? 4 : 3) ? 1 : 0);
            }
            Due.due("SQUARE 5 is dyed", x.square(5, 6), bath);
        }
        Due.due("LAID again", x.does(10), 32 + 7 + 16);
        Due.due("3 layers, not more", x.square(3, 2), 3);
        Due.due("3 layers again", x.square(0, 2), 3);
        Due.due("BOILING", x.does(20), 55);
        Due.due("no WAX is left", x.count(5), 0);
        x.does(1);
        Due.due("COLOUR 1 of COTTON", x.square(0, 7), 3);
        Due.due("COLOUR 2 of SILK", x.square(2, 8), 2);
        for (int bath = 0; bath < 5; bath++) {
            x.does(1);
        }
        Due.due("9 is the most", x.square(0, 7), 9);
        Due.due("FELT has 4", x.square(4, 7), 4);
        Due.due("FELT has 4 by ones", x.square(4, 8), 4);
        Due.due("WOOL has 9", x.square(3, 7), 9);
    }

    private static void rinsing() {
        WaxCloth x = Due.withCloth("wc0,c0;210;1");
        x.does(0);
        x.does(10);
        Due.due("RINSING", x.does(21), 0);
        Due.due("1 less", x.square(0, 6), 1);
        Due.due("1 less of 1", x.square(0, 7), 0);
        Due.due("0 at least", x.square(0, 8), 0);
        Due.due("not under WAX", x.square(1, 6), 2);
        Due.due("WAX stays", x.square(1, 2), 3);
        Due.due("white again", x.does(21), 1);
        Due.due("still", x.does(21), 1);
        Due.due("no less", x.square(0, 6), 0);
    }

    private static void wrongDoings() {
        WaxCloth x = Due.withCloth("wc0;100,010;0");
        int[] wrong = {Integer.MIN_VALUE, -1, 2, 3, 4, 9, 11, 12, 13, 19, 22, 30, Integer.MAX_VALUE};
        for (int doing : wrong) {
            Due.due("does " + doing, x.does(doing), WaxCloth.BAD);
        }
        Due.due("nothing was done", x.count(3), 0);
        Due.due("nothing to undo", x.undo(), WaxCloth.NONE);
        WaxCloth most = Due.withCloth("wc0;100,010,001,111;0,0,0");
        int[] there = {0, 1, 2, 3, 10, 11, 12, 20, 21};
        for (int n = 0; n < there.length; n++) {
            most.does(there[n]);
            Due.due("does " + there[n], most.count(3), n + 1);
        }
        Due.due("no CLOTH, no BOILING", new WaxCloth().does(20), WaxCloth.BAD);
    }

    private static void undoing() {
        WaxCloth x = Due.withCloth("wc1,w2;100,010;0,1");
        x.does(10);
        x.does(1);
        x.does(20);
        x.does(0);
        Due.due("undo a BATH", x.undo(), 3);
        Due.due("COLOUR is back", x.square(0, 6), 0);
        Due.due("undo a BOILING", x.undo(), 2);
        Due.due("WAX is back", x.square(0, 2), 2);
        Due.due("DOINGS are fewer", x.count(3), 2);
        Due.due("undo", x.undo(), 1);
        Due.due("WAX is 3", x.square(0, 2), 3);
        Due.due("undo the first", x.undo(), 0);
        Due.due("no WAX", x.count(5), 0);
        Due.due("none can", x.undo(), WaxCloth.NONE);
        Due.due("no DOINGS", x.count(3), 0);
        Due.due("without a CLOTH", new WaxCloth().undo(), WaxCloth.NONE);
        theLatest24();
    }

    private static void theLatest24() {
        WaxCloth x = Due.withCloth("wc0;100;0");
        for (int n = 1; n <= 30; n++) {
            x.does(n <= 9 ? 0 : n % 2 == 0 ? 21 : 0);
            Due.due("can be undone", x.count(7), Math.min(n, 24));
        }
        for (int n = 23; n >= 0; n--) {
            Due.due("undo down to " + n, x.undo(), n);
            Due.due("DOINGS", x.count(3), n + 6);
        }
        Due.due("as behind the 6th", x.square(0, 6), 6);
        Due.due("none is held", x.undo(), WaxCloth.NONE);
        x.does(0);
        Due.due("one more, undone", x.undo(), 0);
        Due.due("as it was", x.square(0, 6), 6);
    }

    private static void wishing() {
        WaxCloth x = Due.withCloth("wc1,c2;100;0");
        x.does(0);
        Due.due("wish", x.wish(1, 1), 2);
        Due.due("wish the most", x.wish(0, 7), 1);
        Due.due("wish the least", x.wish(0, 0), 7);
        Due.due("WISHED", x.square(1, 1), 1);
        Due.due("RIGHT by it", x.count(4), 2);
        Due.due("undo", x.undo(), 0);
        Due.due("a wish is not undone", x.square(1, 1), 1);
        Due.due("wish is no DOING", x.undo(), WaxCloth.NONE);
        Due.due("hue 8", x.wish(0, 8), WaxCloth.BAD);
        Due.due("hue -1", x.wish(0, -1), WaxCloth.BAD);
        Due.due("no SQUARE", x.wish(2, 0), WaxCloth.BAD);
        Due.due("no SQUARE below", x.wish(-1, 0), WaxCloth.BAD);
        Due.due("refused, nothing changed", x.square(0, 1), 0);
    }

    private static void images() {
        WaxCloth x = Due.withCloth("wc1,s2;100,020;0,01");
        Due.due("BAD ahead of NOT", new WaxCloth().image(2), WaxCloth.BAD);
        Due.due("BAD ahead of NOT", new WaxCloth().restore(-1), WaxCloth.BAD);
        Due.due("image of no CLOTH", new WaxCloth().image(1), WaxCloth.NOT);
        x.does(0);
        x.does(10);
        Due.due("image 0", x.image(0), 2);
        x.does(1);
        x.wish(0, 6);
        Due.due("image 1", x.image(1), 3);
        x.does(20);
        Due.due("an image can be undone past", x.undo(), 3);
        Due.due("image -1", x.image(-1), WaxCloth.BAD);
        Due.due("image 2", x.image(2), WaxCloth.BAD);
        Due.due("restore -1", x.restore(-1), WaxCloth.BAD);
        Due.due("restore 2", x.restore(2), WaxCloth.BAD);
        Due.due("refused, still to undo", x.count(7), 3);
        Due.due("restore 0", x.restore(0), 2);
        Due.due("WISHED too", x.square(0, 1), 1);
        Due.due("WAX", x.square(0, 2), 3);
        Due.due("COLOUR", x.square(1, 7), 0);
        Due.due("DOINGS", x.count(3), 2);
        Due.due("nothing can be undone", x.undo(), WaxCloth.NONE);
        x.does(20);
        x.wish(0, 5);
        Due.due("the IMAGE is its own", x.restore(0), 2);
        Due.due("WISHED of the IMAGE", x.square(0, 1), 1);
        Due.due("WAX of the IMAGE", x.square(0, 2), 3);
        Due.due("another CLOTH", Due.cloth(x, "wf3;333,222,111;0,0"), 1);
        Due.due("restore 1", x.restore(1), 3);
        Due.due("its SQUARES", x.count(0), 2);
        Due.due("its DYES", x.count(1), 2);
        Due.due("its STENCIL", x.stencil(1), 3);
        Due.due("its DYE", x.dye(1, 1), 2);
        Due.due("its KIND", x.square(1, 0), 3);
        Due.due("its COLOUR", x.square(1, 7), 3);
        Due.due("its WISHED", x.square(0, 1), 6);
        Due.due("its WAX", x.square(0, 2), 2);
    }

    private static void counts() {
        WaxCloth x = Due.withCloth("wc1,c2,c0;100,010;12,0,01");
        x.does(10);
        x.does(0);
        x.feed(7);
        int[] due = {3, 2, 3, 2, 5, 6, 1, 2, 1};
        for (int what = 0; what <= 8; what++) {
            Due.due("count " + what, x.count(what), due[what]);
        }
        x.does(0);
        Due.due("one layer is WAX", x.square(1, 2), 1);
        Due.due("with WAX", x.count(5), 6);
        x.does(0);
        Due.due("no layer is none", x.count(5), 0);
        x.does(11);
        Due.due("the first SQUARE", x.count(5), 1);
        Due.due("count 9", x.count(9), WaxCloth.BAD);
        Due.due("count -1", x.count(-1), WaxCloth.BAD);
        WaxCloth none = new WaxCloth();
        none.feed(0);
        for (int what = 0; what <= 8; what++) {
            Due.due("count without a CLOTH " + what, none.count(what), what == 8 ? 1 : 0);
        }
        Due.due("count 9 without a CLOTH", none.count(9), WaxCloth.BAD);
    }
}
