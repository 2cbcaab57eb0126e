/** Promises 4 to 8: square, as, dye, stencil, takes. */
public final class ToldTest {
    private static final String ALL_KINDS = "wc1,l2,s3,w4,f5;012,333,100,021;02,134,0134";

    public static void main(String[] args) {
        squares();
        hues();
        kindsOverOneAnother();
        dyesAndStencils();
        takings();
        wrongNumbers();
        Due.end();
    }

    private static void squares() {
        WaxCloth x = Due.withCloth(ALL_KINDS);
        for (int s = 0; s < 5; s++) {
            Due.due("KIND of " + s, x.square(s, 0), s + 1);
            Due.due("WISHED of " + s, x.square(s, 1), s + 1);
            for (int what = 2; what <= 8; what++) {
                Due.due("white " + s + " what " + what, x.square(s, what), 0);
            }
        }
        x.does(0);
        x.does(10);
        Due.due("WAX", x.square(2, 2), 3);
        Due.due("HUE of 0 2 3", x.square(2, 3), 6);
        Due.due("DARK", x.square(2, 4), 5);
        Due.due("not RIGHT", x.square(2, 5), 0);
        Due.due("COLOUR 0", x.square(2, 6), 0);
        Due.due("COLOUR 1", x.square(2, 7), 2);
        Due.due("COLOUR 2", x.square(2, 8), 3);
        x.wish(2, 6);
        Due.due("RIGHT", x.square(2, 5), 1);
        Due.due("white is RIGHT, if wished", Due.withCloth("wc0;100;0").square(0, 5), 1);
    }

    /** Half is the true half: 1 is less than that of 3, 2 is that of 4, and 4 is less than that of 9. */
    private static void hues() {
        Due.due("1 of 3", hueOf("wc0;103;0", 0), 4);
        Due.due("2 of 3", hueOf("wc0;203;0", 0), 5);
        Due.due("1 of 2", hueOf("wc0;102;0", 0), 5);
        Due.due("1 of 4", hueOf("wc0;102;0", 0, 0, 21), 4);
        Due.due("2 of 4", hueOf("wc0;102;0", 0, 0), 5);
        Due.due("all alike", hueOf("wc0;222;0", 0), 7);
        Due.due("none", hueOf("wc0;222;0"), 0);
        Due.due("0 of 1 is none", hueOf("wc0;100;0", 0), 1);
        Due.due("3 of 6 of 6", hueOf("wc0;122;0", 0, 0, 0), 7);
        Due.due("4 of 9", hueOf("wc0;130,100;0", 0, 0, 0, 1), 2);
        Due.due("5 of 9", hueOf("wc0;130,100;0", 0, 0, 0, 1, 1), 3);
    }

    private static int hueOf(String tape, int... doings) {
        return Due.after(tape, doings).square(0, 3);
    }

    private static void kindsOverOneAnother() {
        WaxCloth x = Due.withCloth(ALL_KINDS);
        int[][] above = {{0, 1}, {0, 1, 2}, {0, 1, 3}, {0, 4}, {0, 4, 5}};
        for (int s = 0; s < 5; s++) {
            for (int kind = 0; kind <= 5; kind++) {
                boolean is = false;
                for (int k : above[s]) {
                    is |= k == kind;
                }
                Due.due("as " + s + " " + kind, x.as(s, kind), is ? s : WaxCloth.CAST);
            }
        }
        Due.due("as of no SQUARE", x.as(5, 0), WaxCloth.BAD);
        Due.due("as of no SQUARE below", x.as(-1, 0), WaxCloth.BAD);
        Due.due("as no KIND", x.as(0, 6), WaxCloth.BAD);
        Due.due("as no KIND below", x.as(0, -1), WaxCloth.BAD);
    }

    private static void dyesAndStencils() {
        WaxCloth x = Due.withCloth(ALL_KINDS);
        int[][] dyes = {{0, 1, 2}, {3, 3, 3}, {1, 0, 0}, {0, 2, 1}};
        for (int d = 0; d < 4; d++) {
            for (int c = 0; c < 3; c++) {
                Due.due("dye " + d + " " + c, x.dye(d, c), dyes[d][c]);
            }
        }
        Due.due("stencil 0", x.stencil(0), 5);
        Due.due("stencil 1", x.stencil(1), 26);
        Due.due("stencil 2", x.stencil(2), 27);
        Due.due("no DYE", x.dye(4, 0), WaxCloth.BAD);
        Due.due("no DYE below", x.dye(-1, 0), WaxCloth.BAD);
        Due.due("no COLOUR", x.dye(0, 3), WaxCloth.BAD);
        Due.due("no COLOUR below", x.dye(0, -1), WaxCloth.BAD);
        Due.due("no STENCIL", x.stencil(3), WaxCloth.BAD);
        Due.due("no STENCIL below", x.stencil(-1), WaxCloth.BAD);
        Due.due("8 SQUARES", Due.withCloth("wc0,c0,c0,c0,c0,c0,c0,c0;000;01234567").stencil(0), 255);
    }

    private static void takings() {
        WaxCloth x = Due.withCloth("wc0,l0,s0,w0,f0;012,333;01234");
        int[][] byBath = {{0, 1, 2, 3}, {0, 1, 2, 2}, {0, 2, 3, 4}, {0, 1, 2, 2}, {0, 1, 2, 2}};
        for (int s = 0; s < 5; s++) {
            for (int c = 0; c < 3; c++) {
                Due.due("takes " + s + " of " + c, x.takes(s, 0, c), byBath[s][c]);
                Due.due("takes " + s + " of 3", x.takes(s, 1, c), byBath[s][3]);
            }
        }
        x.does(1);
        Due.due("FELT with 2", x.takes(4, 1, 0), 2);
        x.does(1);
        Due.due("COTTON with 6", x.takes(0, 1, 0), 3);
        Due.due("SILK with 8 has 9 at most", x.takes(2, 1, 0), 1);
        Due.due("WOOL with 4", x.takes(3, 1, 0), 2);
        Due.due("FELT with 4", x.takes(4, 1, 0), 0);
        x.does(21);
        Due.due("FELT with 3", x.takes(4, 1, 0), 2);
        x.does(10);
        for (int s = 0; s < 5; s++) {
            Due.due("under WAX " + s, x.takes(s, 1, 0), 0);
        }
        x.does(0);
        Due.due("one layer on SILK", x.square(2, 2), 1);
        Due.due("under one layer", x.takes(2, 1, 0), 0);
    }

    private static void wrongNumbers() {
        WaxCloth x = Due.withCloth(ALL_KINDS);
        Due.due("square 5", x.square(5, 0), WaxCloth.BAD);
        Due.due("square -1", x.square(-1, 0), WaxCloth.BAD);
        Due.due("square what 9", x.square(0, 9), WaxCloth.BAD);
        Due.due("square what -1", x.square(0, -1), WaxCloth.BAD);
        Due.due("takes square", x.takes(5, 0, 0), WaxCloth.BAD);
        Due.due("takes square below", x.takes(-1, 0, 0), WaxCloth.BAD);
        Due.due("takes dye", x.takes(0, 4, 0), WaxCloth.BAD);
        Due.due("takes dye below", x.takes(0, -1, 0), WaxCloth.BAD);
        Due.due("takes colour", x.takes(0, 0, 3), WaxCloth.BAD);
        Due.due("takes colour below", x.takes(0, 0, -1), WaxCloth.BAD);
    }
}
