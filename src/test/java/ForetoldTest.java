/** Promises 14 to 18: plan, rows, shades, cracks, decades. */
public final class ForetoldTest {
    public static void main(String[] args) {
        plans();
        plansOfTheFirstRow();
        wrongPlans();
        rowsOfBaths();
        wrongRows();
        shadesOfBaths();
        cracksOfWax();
        wrongCracks();
        decadesByDraws();
        wrongDecades();
        nothingChanges();
        Due.end();
    }

    private static void plan(String what, WaxCloth x, int n, int right, int... row) {
        Due.due(what + ": RIGHT", x.plan(n, -2), right);
        Due.due(what + ": DOINGS", x.plan(n, -1), row.length);
        for (int k = 0; k < row.length; k++) {
            Due.due(what + ": the " + k + "th", x.plan(n, k), row[k]);
        }
        Due.due(what + ": not so many", x.plan(n, row.length), WaxCloth.NONE);
        Due.due(what + ": far from so many", x.plan(n, Integer.MAX_VALUE), WaxCloth.NONE);
    }

    private static void plans() {
        plan("all RIGHT already", Due.withCloth("wc0,c0;100;0"), 4, 2);
        plan("none can be", Due.withCloth("wc2,c2;100;0"), 4, 0);
        plan("one BATH", Due.withCloth("wc2;100,010;0"), 4, 1, 1);
        plan("no DOINGS at all", Due.withCloth("wc2;100,010;0"), 0, 0);
        plan("as much as can be", Due.withCloth("wc2,c1;100,010;0"), 1, 1, 0);
        plan("WAX, then a BATH", Due.withCloth("wc0,c1;100;0"), 4, 2, 10, 0);
        plan("WAX between BATHS", Due.withCloth("wc1,c3;100,010;0"), 4, 2, 0, 10, 1);
        plan("too short for that", Due.withCloth("wc1,c3;100,010;0"), 2, 1, 0);
        WaxCloth x = Due.withCloth("wc1,c3;100,010;0");
        plan("a longer one", x, 3, 2, 0, 10, 1);
        plan("none behind a longer one", x, 0, 0);
    }

    private static void plansOfTheFirstRow() {
        plan("the first of two BATHS", Due.withCloth("wc1;200,100;0"), 4, 1, 0);
        WaxCloth x = Due.withCloth("wc0,c1;100;0");
        x.does(0);
        plan("RINSING all is less than half of it", x, 1, 1);
        plan("WAX on the other one, then RINSING", Due.withCloth("wc0,c1;100;1"), 2, 1);
        WaxCloth y = Due.withCloth("wc0,c1;100;1");
        y.does(0);
        plan("a STENCIL, a RINSING", y, 2, 2, 10, 21);
        WaxCloth z = Due.withCloth("wc1;100;0");
        z.does(10);
        plan("BOILING ahead of the BATH", z, 4, 1, 20, 0);
        WaxCloth w = Due.withCloth("ww1;100;0");
        w.does(10);
        plan("too short for BOILING", w, 1, 0);
    }

    private static void wrongPlans() {
        WaxCloth x = Due.withCloth("wc1;100;0");
        Due.due("n 5", x.plan(5, -2), WaxCloth.BAD);
        Due.due("n -1", x.plan(-1, -2), WaxCloth.BAD);
        Due.due("k -3", x.plan(0, -3), WaxCloth.BAD);
        WaxCloth none = new WaxCloth();
        Due.due("no CLOTH", none.plan(4, 0), WaxCloth.NOT);
        Due.due("BAD ahead of NOT by n", none.plan(5, 0), WaxCloth.BAD);
        Due.due("BAD ahead of NOT by k", none.plan(4, -3), WaxCloth.BAD);
    }

    private static void rowsOfBaths() {
        WaxCloth x = Due.withCloth("wc0,l0,s0,w0,f0;100,010,200;0");
        Due.due("of none", x.rows(0, 0, 0, 0, 0, -1), 1);
        Due.due("the 0th of none", x.rows(0, 0, 0, 0, 0, 0), WaxCloth.NONE);
        Due.due("not white", x.rows(0, 1, 0, 0, 0, -1), 0);
        Due.due("two of three", x.rows(0, 3, 0, 0, 2, -1), 2);
        Due.due("the first DYE", x.rows(0, 3, 0, 0, 2, 0), 0);
        Due.due("the second DYE", x.rows(0, 3, 0, 0, 2, 1), 2);
        Due.due("not so many", x.rows(0, 3, 0, 0, 2, 2), WaxCloth.NONE);
        Due.due("none there", x.rows(0, 0, 0, 1, 5, -1), 0);
        Due.due("the first of none there", x.rows(0, 0, 0, 1, 5, 0), WaxCloth.NONE);
        Due.due("9 is the most", x.rows(0, 9, 0, 0, 5, -1), 6);
        Due.due("the first of those", x.rows(0, 9, 0, 0, 5, 0), 0);
        Due.due("its last", x.rows(0, 9, 0, 0, 5, 4), 2);
        Due.due("FELT", x.rows(4, 5, 0, 0, 3, -1), 2);
        Due.due("FELT, the second DYE", x.rows(4, 5, 0, 0, 3, 1), 2);
        x.does(10);
        x.does(2);
        Due.due("white, without WAX, whatever it is", x.rows(0, 3, 0, 0, 2, -1), 2);
        Due.due("another one too", x.rows(1, 3, 0, 0, 2, -1), 2);
        WaxCloth most = Due.withCloth("wc0;000,000,000,000;0");
        Due.due("all rows", most.rows(0, 0, 0, 0, 5, -1), 1024);
        Due.due("of DYES without COLOUR", most.rows(0, 0, 0, 0, 5, 4), 0);
    }

    private static void wrongRows() {
        WaxCloth x = Due.withCloth("wc1;100;0");
        Due.due("SQUARE 1", x.rows(1, 0, 0, 0, 0, -1), WaxCloth.BAD);
        Due.due("SQUARE -1", x.rows(-1, 0, 0, 0, 0, -1), WaxCloth.BAD);
        for (int wrong : new int[] {-1, 10, Integer.MAX_VALUE, Integer.MIN_VALUE}) {
            Due.due("red " + wrong, x.rows(0, wrong, 0, 0, 0, -1), WaxCloth.BAD);
            Due.due("yellow " + wrong, x.rows(0, 0, wrong, 0, 0, -1), WaxCloth.BAD);
            Due.due("blue " + wrong, x.rows(0, 0, 0, wrong, 0, -1), WaxCloth.BAD);
        }
        Due.due("n -1", x.rows(0, 0, 0, 0, -1, -1), WaxCloth.BAD);
        Due.due("n 6", x.rows(0, 0, 0, 0, 6, -1), WaxCloth.BAD);
        Due.due("k -2", x.rows(0, 0, 0, 0, 0, -2), WaxCloth.BAD);
        Due.due("k far", x.rows(0, 1, 0, 0, 1, Integer.MAX_VALUE), WaxCloth.NONE);
        Due.due("no CLOTH", new WaxCloth().rows(0, 0, 0, 0, 0, -1), WaxCloth.BAD);
    }

    private static void shadesOfBaths() {
        WaxCloth x = Due.withCloth("wc0,l0,f0;100,010,300;0");
        Due.due("of no BATH", x.shades(0, 0), 1);
        Due.due("of one", x.shades(0, 1), 3);
        Due.due("of two", x.shades(0, 2), 6);
        Due.due("of two, LINEN", x.shades(1, 2), 6);
        Due.due("of three", x.shades(0, 3), 10);
        Due.due("of three, FELT", x.shades(2, 3), 9);
        x.does(10);
        Due.due("under WAX", x.shades(0, 1), 3);
        Due.due("like DYES", Due.withCloth("wc0;123,123;0").shades(0, 5), 1);
        Due.due("n 6", x.shades(0, 6), WaxCloth.BAD);
        Due.due("n -1", x.shades(0, -1), WaxCloth.BAD);
        Due.due("SQUARE 3", x.shades(3, 0), WaxCloth.BAD);
        Due.due("SQUARE -1", x.shades(-1, 0), WaxCloth.BAD);
        Due.due("no CLOTH", new WaxCloth().shades(0, 0), WaxCloth.BAD);
    }

    private static void odds(String what, WaxCloth x, int dye, int right, int q, int above, int below) {
        Due.due(what + ": above", x.cracks(dye, right, q, 0), above);
        Due.due(what + ": below", x.cracks(dye, right, q, 1), below);
    }

    private static void cracksOfWax() {
        WaxCloth x = Due.withCloth("wc1,c1,c0;100;012,2,01");
        odds("no WAX, two RIGHT", x, 0, 2, 5, 1, 1);
        odds("no WAX, three RIGHT", x, 0, 3, 5, 0, 1);
        x.does(12);
        odds("two fall off by halves", x, 0, 2, 5, 1, 4);
        odds("one or more", x, 0, 1, 5, 3, 4);
        odds("none or more", x, 0, 0, 5, 1, 1);
        odds("three tenths", x, 0, 2, 3, 9, 100);
        odds("three tenths, one or more", x, 0, 1, 3, 51, 100);
        odds("none falls off", x, 0, 1, 0, 0, 1);
        odds("all falls off", x, 0, 2, 10, 1, 1);
        odds("more than there are", x, 0, 8, 10, 0, 1);
        x.does(10);
        odds("all under WAX", x, 0, 3, 5, 1, 8);
        odds("white stays RIGHT", x, 0, 3, 1, 9, 1000);
        odds("four tenths", x, 0, 2, 4, 56, 125);
        WaxCloth most = Due.withCloth("wc1,c1,c1,c1,c1,c1,c1,c1;100;01234567");
        most.does(10);
        odds("all eight", most, 0, 8, 3, 6561, 100000000);
        odds("one of eight or more", most, 0, 1, 3, 94235199, 100000000);
        WaxCloth thin = Due.withCloth("wc1;100;0");
        thin.does(10);
        thin.does(0);
        thin.does(0);
        odds("one layer does as three do", thin, 0, 1, 7, 7, 10);
        thin.does(0);
        odds("no layer", thin, 0, 1, 0, 1, 1);
    }

    private static void wrongCracks() {
        WaxCloth x = Due.withCloth("wc1;100;0");
        Due.due("DYE 1", x.cracks(1, 0, 0, 0), WaxCloth.BAD);
        Due.due("DYE -1", x.cracks(-1, 0, 0, 0), WaxCloth.BAD);
        Due.due("right 9", x.cracks(0, 9, 0, 0), WaxCloth.BAD);
        Due.due("right -1", x.cracks(0, -1, 0, 0), WaxCloth.BAD);
        Due.due("q 11", x.cracks(0, 0, 11, 0), WaxCloth.BAD);
        Due.due("q -1", x.cracks(0, 0, -1, 0), WaxCloth.BAD);
        Due.due("what 2", x.cracks(0, 0, 0, 2), WaxCloth.BAD);
        Due.due("what -1", x.cracks(0, 0, 0, -1), WaxCloth.BAD);
        Due.due("no CLOTH", new WaxCloth().cracks(0, 0, 0, 0), WaxCloth.BAD);
    }

    private static void decadesByDraws() {
        WaxCloth x = Due.withCloth("wc1;100;0");
        Due.due("no draw, DARK", x.decades(0, 1, 0), 0);
        Due.due("no draw, RIGHT", x.decades(0, 1, 1), 0);
        // 16807 by 4 is 4201, which leaves 1 by 4: the STENCIL
        Due.due("one draw, DARK", x.decades(1, 1, 0), 0);
        // 33614 by 4 is 8403, which leaves 3: a RINSING
        Due.due("a RINSING", x.decades(1, 2, 0), 0);
        // 16807 times 16 is 268912, by 4 it is 67228, which leaves 0: the BATH
        Due.due("a BATH", x.decades(1, 16, 0), 1);
        Due.due("a BATH, RIGHT", x.decades(1, 16, 1), 1);
        // then X is 224636690, by 4 it is 56159172, which leaves 0: the BATH again
        Due.due("a BATH again", x.decades(2, 16, 0), 2);
        Due.due("RIGHT behind each of both", x.decades(2, 16, 1), 2);
        // then X is 192597404, by 4 it is 48149351, which leaves 3: a RINSING
        Due.due("a RINSING then", x.decades(3, 16, 0), 1);
        Due.due("RIGHT behind each of three", x.decades(3, 16, 1), 3);
    }

    private static void wrongDecades() {
        WaxCloth x = Due.withCloth("wc1;100;0");
        WaxCloth none = new WaxCloth();
        Due.due("n 61", x.decades(61, 1, 0), WaxCloth.BAD);
        Due.due("n -1", x.decades(-1, 1, 0), WaxCloth.BAD);
        Due.due("SEED 0", x.decades(1, 0, 0), WaxCloth.BAD);
        Due.due("SEED 1000000", x.decades(1, 1000000, 0), WaxCloth.BAD);
        Due.due("what 2", x.decades(1, 1, 2), WaxCloth.BAD);
        Due.due("what -1", x.decades(1, 1, -1), WaxCloth.BAD);
        Due.due("no CLOTH", none.decades(60, 999999, 1), WaxCloth.NOT);
        Due.due("BAD ahead of NOT", none.decades(60, 999999, 2), WaxCloth.BAD);
    }

    private static void nothingChanges() {
        WaxCloth x = Due.withCloth("wc1,s2,f4;123,310;01,2");
        x.does(0);
        x.does(10);
        int[] before = all(x);
        x.plan(4, 0);
        x.rows(1, 2, 3, 4, 5, 0);
        x.shades(2, 5);
        x.cracks(1, 1, 5, 0);
        x.decades(60, 4711, 1);
        int[] behind = all(x);
        for (int i = 0; i < before.length; i++) {
            Due.due("nothing changes, " + i, behind[i], before[i]);
        }
    }

    private static int[] all(WaxCloth x) {
        int[] answers = new int[36];
        for (int what = 0; what < 9; what++) {
            answers[what] = x.count(what);
            for (int s = 0; s < 3; s++) {
                answers[9 + 9 * s + what] = x.square(s, what);
            }
        }
        return answers;
    }
}
