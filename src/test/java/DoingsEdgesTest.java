/** The boundaries of COLOURS, WAX and DOINGS (terms 2, promises 4 to 13 and 28), sentence by sentence. */
public final class DoingsEdgesTest {
    private static final String LETTERS = "clswf";
    /** By KIND (from COTTON on) and how much is in the bath; FELT but for what it has already. */
    private static final int[][] TAKEN = {{0, 1, 2, 3}, {0, 1, 2, 2}, {0, 2, 3, 4}, {0, 1, 2, 2}, {0, 1, 2, 2}};
    /** By KIND and how many BATHS there were. */
    private static final int[][] LAYERS = {{3, 2, 1, 0, 0}, {3, 2, 1, 0, 0}, {3, 1, 0, 0, 0}, {3, 3, 3, 3, 3}, {3, 2, 1, 0, 0}};
    private static final String EIGHT_SILK = "ws7,s7,s7,s7,s7,s7,s7,s7;333,111;01234567,7,0";

    public static void main(String[] args) {
        whatIsTakenOfEachAmount();
        feltTakesNothingFrom4On();
        rinsingEachAmount();
        halfOfTheGreatest();
        rightIsWished();
        layersBehindBaths();
        layersDoneAway();
        stencilsLieOnTheirSquaresAlone();
        theDarkestAndTheLastSquare();
        theLatest24();
        undoneAndDoneAgain();
        noneCanBeUndone();
        wishesAtTheirEnds();
        imagesOverwritten();
        imagesAreOfAllOfIt();
        restoreLeavesAllElse();
        countsWithoutACloth();
        full();
        Due.end();
    }

    /** A SQUARE of a KIND that has so much of COLOUR 0; DYES 0 to 2 have 1 to 3 of it, DYE 3 has none. */
    private static WaxCloth having(int kind, int had) {
        WaxCloth x = Due.withCloth("w" + LETTERS.charAt(kind) + "0;100,200,300,010;0");
        for (int step = 0; step < 20 && x.square(0, 6) != had; step++) {
            boolean byTwo = kind == 4 && x.square(0, 6) == 3 && had == 5;
            x.does(byTwo ? 2 : x.square(0, 6) < had ? 0 : 21);
        }
        Due.due("having " + had, x.square(0, 6), had);
        return x;
    }

    private static int most(int kind) {
        return kind == 4 ? 5 : 9;
    }

    /** "9 is the most that there is in it", and what each KIND TAKES of 0 to 3 ("if that is not 0"). */
    private static void whatIsTakenOfEachAmount() {
        for (int kind = 0; kind < 5; kind++) {
            for (int had = 0; had <= most(kind); had++) {
                for (int bath = 0; bath <= 3; bath++) {
                    WaxCloth x = having(kind, had);
                    int dye = bath == 0 ? 3 : bath - 1;
                    int taken = kind == 4 && had >= 4 ? 0 : Math.min(TAKEN[kind][bath], 9 - had);
                    String what = LETTERS.charAt(kind) + " with " + had + " of " + bath;
                    Due.due("takes: " + what, x.takes(0, dye, 0), taken);
                    Due.due("takes changes nothing: " + what, x.square(0, 6), had);
                    x.does(dye);
                    Due.due("has then: " + what, x.square(0, 6), had + taken);
                }
            }
        }
    }

    /** "nothing, if there are 4 in it already, or more": of each COLOUR by itself. */
    private static void feltTakesNothingFrom4On() {
        WaxCloth x = Due.after("wf0;110,001,331;0", 0, 0, 0);
        Due.due("with 3", x.takes(0, 0, 0), 1);
        x.does(2);
        Due.due("3 and 2 more", x.square(0, 6), 5);
        Due.due("nothing with 5", x.takes(0, 2, 0), 0);
        Due.due("COLOUR 2 by itself", x.takes(0, 2, 2), 1);
        x.does(21);
        Due.due("nothing with 4", x.takes(0, 2, 1), 0);
        x.does(21);
        Due.due("again with 3", x.takes(0, 2, 1), 2);
    }

    /** "1 less of each COLOUR (0 at least)". */
    private static void rinsingEachAmount() {
        for (int kind = 0; kind < 5; kind++) {
            for (int had = 0; had <= most(kind); had++) {
                WaxCloth x = having(kind, had);
                x.does(21);
                Due.due("rinsed from " + had, x.square(0, 6), Math.max(0, had - 1));
                Due.due("nothing of the others", x.square(0, 7) + x.square(0, 8), 0);
            }
        }
        WaxCloth x = Due.after("wc0;123;0", 0, 21);
        Due.due("1 to 0", x.square(0, 6), 0);
        Due.due("2 to 1", x.square(0, 7), 1);
        Due.due("3 to 2", x.square(0, 8), 2);
    }

    /** "of which there is something, and half as much as of the greatest, or more": all 1000 shades. */
    private static void halfOfTheGreatest() {
        for (int shade = 0; shade < 1000; shade++) {
            int[] has = {shade / 100, shade / 10 % 10, shade % 10};
            WaxCloth x = Due.withCloth("wc0;100,010,001;0");
            int greatest = 0;
            for (int colour = 0; colour < 3; colour++) {
                greatest = Math.max(greatest, has[colour]);
                for (int n = 0; n < has[colour]; n++) {
                    x.does(colour);
                }
            }
            int hue = 0;
            for (int colour = 0; colour < 3; colour++) {
                hue += has[colour] > 0 && has[colour] + has[colour] >= greatest ? 1 << colour : 0;
                Due.due("COLOUR " + colour + " of " + shade, x.square(0, 6 + colour), has[colour]);
            }
            Due.due("HUE of " + shade, x.square(0, 3), hue);
            Due.due("DARK of " + shade, x.square(0, 4), has[0] + has[1] + has[2]);
        }
    }

    /** "A SQUARE is RIGHT, if its HUE is WISHED": each HUE with each wish, white among them. */
    private static void rightIsWished() {
        int[][] baths = {{}, {0}, {1}, {0, 1}, {2}, {0, 2}, {1, 2}, {0, 1, 2}};
        for (int hue = 0; hue <= 7; hue++) {
            WaxCloth x = Due.after("wc0;100,010,001;0", baths[hue]);
            for (int wished = 0; wished <= 7; wished++) {
                x.wish(0, wished);
                Due.due("HUE " + hue + " with " + wished, x.square(0, 5), hue == wished ? 1 : 0);
                Due.due("as a set", x.count(4), hue == wished ? 1 : 0);
            }
        }
    }

    /** "WAX is CRACKED .. (0 at least)"; the BATH that takes the last layer off dyes nothing yet. */
    private static void layersBehindBaths() {
        for (int kind = 0; kind < 5; kind++) {
            WaxCloth x = Due.after("w" + LETTERS.charAt(kind) + "0;100;0", 0, 10);
            for (int bath = 0; bath < 5; bath++) {
                int layers = LAYERS[kind][bath];
                int had = x.square(0, 6);
                Due.due("layers behind " + bath, x.square(0, 2), layers);
                Due.due("with WAX", x.count(5), layers > 0 ? 1 : 0);
                Due.due("takes, if there is none", x.takes(0, 0, 0), layers > 0 ? 0 : TAKEN[kind][1]);
                x.does(0);
                Due.due("dyed, if there was none", x.square(0, 6), had + (layers > 0 ? 0 : TAKEN[kind][1]));
            }
        }
    }

    /** A RINSING asks for no WAX at all, a BOILING leaves none, a STENCIL makes it 3: from each layer. */
    private static void layersDoneAway() {
        for (int kind = 0; kind < 5; kind++) {
            for (int baths = 0; baths < 4; baths++) {
                WaxCloth x = Due.after("w" + LETTERS.charAt(kind) + "0;300;0", 0, 10);
                for (int bath = 0; bath < baths; bath++) {
                    x.does(0);
                }
                int layers = LAYERS[kind][baths];
                int had = x.square(0, 6);
                x.does(21);
                Due.due("rinsed under " + layers, x.square(0, 6), had - (layers == 0 ? 1 : 0));
                Due.due("a RINSING leaves WAX", x.square(0, 2), layers);
                x.does(20);
                Due.due("boiled", x.square(0, 2), 0);
                Due.due("undone", x.undo() >= 0 ? x.square(0, 2) : -1, layers);
                x.does(10);
                Due.due("laid on " + layers, x.square(0, 2), 3);
                x.does(10);
                Due.due("3 is the most", x.square(0, 2), 3);
            }
        }
    }

    /** "WAX is 3 layers on its SQUARES": each SQUARE by itself, the first and the last among them. */
    private static void stencilsLieOnTheirSquaresAlone() {
        for (int on = 0; on < 8; on++) {
            WaxCloth x = Due.after("wc0,c0,c0,c0,c0,c0,c0,c0;100;" + on, 10);
            Due.due("with WAX", x.count(5), 1 << on);
            Due.due("all but that are dyed", x.does(0), 1 << on);
            Due.due("how DARK", x.count(6), 7);
            for (int s = 0; s < 8; s++) {
                Due.due("WAX of " + s, x.square(s, 2), s == on ? 2 : 0);
                Due.due("COLOUR of " + s, x.square(s, 6), s == on ? 0 : 1);
            }
        }
    }

    private static void theDarkestAndTheLastSquare() {
        WaxCloth x = Due.withCloth(EIGHT_SILK);
        Due.due("none is RIGHT", x.count(4), 0);
        Due.due("all are RIGHT", x.does(0), 255);
        x.does(0);
        Due.due("8 of each", x.count(6), 192);
        x.does(0);
        Due.due("9 of each is the most", x.count(6), 216);
        x.does(0);
        Due.due("still", x.count(6), 216);
        Due.due("the last SQUARE", x.square(7, 4), 27);
        x.does(11);
        Due.due("WAX on the last", x.count(5), 128);
        x.does(12);
        Due.due("and on the first", x.count(5), 129);
        Due.due("a set of one", x.stencil(1), 128);
        x.wish(7, 0);
        Due.due("the last is not RIGHT", x.count(4), 127);
    }

    /** "The latest 24 can be undone, the latest first". */
    private static void theLatest24() {
        for (int doings : new int[] {0, 1, 23, 24, 25, 47, 48, 49, 60}) {
            WaxCloth x = Due.withCloth("wc0;100,010,001;0");
            int[] shades = new int[doings + 1];
            for (int n = 0; n < doings; n++) {
                shades[n] = shade(x);
                // a walk that goes on through unlike shades
                x.does(n % 7 == 6 ? 21 : n % 3);
                Due.due("can be undone", x.count(7), Math.min(24, n + 1));
            }
            int held = Math.min(24, doings);
            for (int back = 1; back <= held; back++) {
                Due.due("undo of " + doings, x.undo(), held - back);
                Due.due("the shade ahead of it", shade(x), shades[doings - back]);
            }
            int last = shade(x);
            Due.due("none can", x.undo(), WaxCloth.NONE);
            Due.due("none can, still", x.undo(), WaxCloth.NONE);
            Due.due("nothing changed", shade(x), last);
            Due.due("DOINGS", x.count(3), doings - held);
        }
    }

    private static int shade(WaxCloth x) {
        return 100 * x.square(0, 6) + 10 * x.square(0, 7) + x.square(0, 8);
    }

    private static void undoneAndDoneAgain() {
        WaxCloth x = Due.withCloth("wc0;100;0");
        for (int n = 0; n < 24; n++) {
            x.does(n % 2 == 0 ? 0 : 21);
        }
        Due.due("one undone", x.undo(), 23);
        x.does(20);
        Due.due("one done: 24 again", x.count(7), 24);
        x.does(0);
        Due.due("24 still", x.count(7), 24);
        Due.due("DOINGS", x.count(3), 25);
        for (int n = 23; n >= 0; n--) {
            Due.due("undo", x.undo(), n);
        }
        Due.due("behind the first one", x.square(0, 6), 1);
        Due.due("one there was", x.count(3), 1);
        // a DOING that changes nothing is one all the same
        x.does(20);
        Due.due("counted", x.count(3), 2);
        Due.due("and undone", x.undo(), 0);
        Due.due("as it was", x.square(0, 6), 1);
    }

    /** "NONE: none can": at first, with a new CLOTH, behind a restore. */
    private static void noneCanBeUndone() {
        Twin.changesNothing("no CLOTH", Twin::withoutCloth, WaxCloth::undo, WaxCloth.NONE);
        Twin.changesNothing("all undone", DoingsEdgesTest::undone, WaxCloth::undo, WaxCloth.NONE);
        WaxCloth x = Due.after("wc0;100;0", 0, 0);
        x.image(1);
        x.restore(1);
        Due.due("restored", x.undo(), WaxCloth.NONE);
        x.does(0);
        Due.due("one since then", x.undo(), 0);
        Due.due("not what was ahead of it", x.undo(), WaxCloth.NONE);
        Due.due("as the IMAGE was", x.square(0, 6), 2);
        x.does(0);
        Due.cloth(x, "wc0;100;0");
        Due.due("a new CLOTH", x.undo(), WaxCloth.NONE);
    }

    private static WaxCloth undone() {
        WaxCloth x = Twin.rich();
        for (int n = 0; n < 24; n++) {
            x.undo();
        }
        return x;
    }

    /** "WISHED of a SQUARE becomes another one (0 .. 7): what it was. (Is not undone.)" */
    private static void wishesAtTheirEnds() {
        WaxCloth x = Due.after("wc3,c0,c0,c0,c0,c0,c0,c5;100;0", 0);
        Due.due("the last SQUARE", x.wish(7, 0), 5);
        Due.due("the first SQUARE", x.wish(0, 7), 3);
        Due.due("the same again", x.wish(0, 7), 7);
        Due.due("the most", x.square(0, 1), 7);
        Due.due("the least", x.square(7, 1), 0);
        Due.due("no DOING", x.count(3), 1);
        Due.due("one can be undone", x.count(7), 1);
        x.undo();
        Due.due("not undone", x.square(0, 1), 7);
        Due.due("nor this one", x.square(7, 1), 0);
    }

    /** "An IMAGE (0, 1) is kept": each by itself, the later one in place of the one before. */
    private static void imagesOverwritten() {
        WaxCloth x = Due.withCloth("wc0;100;0");
        Due.due("no DOINGS", x.image(0), 0);
        x.does(0);
        Due.due("one", x.image(1), 1);
        x.does(0);
        Due.due("two, in place of none", x.image(0), 2);
        x.does(0);
        Due.due("IMAGE 1", x.restore(1), 1);
        Due.due("its COLOUR", x.square(0, 6), 1);
        Due.due("IMAGE 0", x.restore(0), 2);
        Due.due("its COLOUR", x.square(0, 6), 2);
        Due.due("restored again", x.restore(0), 2);
        x.undo();
        Due.due("nothing was undone", x.square(0, 6), 2);
        x.does(0);
        x.undo();
        Due.due("an IMAGE of what was undone", x.image(1), 2);
        Twin.changesNothing("IMAGE 1 was never kept", Twin::rich, y -> y.restore(1), WaxCloth.NOT);
    }

    /** "(all of it, WISHED, too)": SQUARES, DYES, STENCILS, WAX, COLOURS, how many DOINGS there were. */
    private static void imagesAreOfAllOfIt() {
        WaxCloth x = Twin.rich();
        Due.due("image", x.image(1), 11);
        WaxCloth y = Twin.rich();
        y.image(1);
        y.wish(0, 7);
        y.does(20);
        y.does(3);
        y.cloth();
        Due.cloth(y, "ww1;111;0");
        y.does(10);
        y.feed('w');
        y.feed('f');
        Due.due("restore", y.restore(1), 11);
        for (int n = 0; n < 11; n++) {
            x.undo();
        }
        Due.due("restore the other", x.restore(1), 11);
        Twin.alike("an IMAGE restored", y, x);
    }

    /** "The CLOTH is as the IMAGE was (nothing can be undone then)": SHEETS, THE TAPE, the other IMAGE stay. */
    private static void restoreLeavesAllElse() {
        WaxCloth x = Twin.rich();
        x.image(1);
        x.restore(0);
        Due.due("nothing can be undone", x.count(7), 0);
        Due.due("THE TAPE", x.count(8), 2);
        Due.due("WISHED", x.square(7, 1), 7);
        Due.due("no WAX", x.count(5), 0);
        Due.due("all RIGHT", x.count(4), 255);
        Due.due("SHEETS", x.wishes(2, 0, 0), 255);
        Due.due("the other IMAGE", x.restore(1), 11);
        Due.due("its WISHED", x.square(7, 1), 6);
        Due.due("its WAX", x.count(5), 15);
    }

    /** "(but 8: 0 without a CLOTH)". */
    private static void countsWithoutACloth() {
        WaxCloth x = Twin.withoutCloth();
        for (int what = 0; what <= 7; what++) {
            Due.due("count " + what, x.count(what), 0);
        }
        Due.due("count 8", x.count(8), 2);
        x.cloth();
        Due.due("count 8 of an empty TAPE", x.count(8), 0);
    }

    /** "9999 at most": beyond 512 calls nothing is promised, this holds the guard itself. */
    private static void full() {
        WaxCloth x = Due.after("wc1;100;0", 10, 20);
        for (int n = 2; n < 9998; n++) {
            x.does(21);
        }
        Due.due("9998", x.count(3), 9998);
        Due.due("the 9999th", x.does(0), 1);
        Due.due("9999", x.image(0), 9999);
        Due.due("FULL", x.does(21), WaxCloth.FULL);
        Due.due("BAD is named ahead of FULL", x.does(1), WaxCloth.BAD);
        Due.due("nothing done", x.square(0, 6), 1);
        Due.due("nothing counted", x.count(3), 9999);
        Due.due("one undone", x.undo(), 23);
        Due.due("room for one", x.does(0), 1);
        Due.due("FULL again", x.does(20), WaxCloth.FULL);
        Due.due("no more to undo", x.count(7), 24);
        Due.due("restored", x.restore(0), 9999);
        Due.due("FULL still", x.does(0), WaxCloth.FULL);
        Due.due("nothing to undo", x.undo(), WaxCloth.NONE);
        Due.due("another CLOTH", Due.cloth(x, "wc1;100;0"), 1);
        Due.due("not FULL", x.does(0), 1);
    }
}
