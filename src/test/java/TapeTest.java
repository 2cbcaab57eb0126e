/** Promises 1 to 3: a new object, feed, cloth. */
public final class TapeTest {
    public static void main(String[] args) {
        newObject();
        feeding();
        clothsThatAreRead();
        faults();
        faultsLeaveAllElse();
        aClothInPlaceOfAnother();
        Due.end();
    }

    private static void newObject() {
        WaxCloth x = new WaxCloth();
        for (int what = 0; what <= 8; what++) {
            Due.due("new: count " + what, x.count(what), 0);
        }
        Due.due("new: square", x.square(0, 0), WaxCloth.BAD);
        Due.due("new: image", x.image(0), WaxCloth.NOT);
        Due.due("new: restore 0", x.restore(0), WaxCloth.NOT);
        Due.due("new: restore 1", x.restore(1), WaxCloth.NOT);
        for (int sheet = 0; sheet < 4; sheet++) {
            Due.due("new: drop " + sheet, x.drop(sheet), WaxCloth.NULL);
        }
    }

    private static void feeding() {
        WaxCloth x = new WaxCloth();
        Due.due("feed -1", x.feed(-1), WaxCloth.BAD);
        Due.due("feed 256", x.feed(256), WaxCloth.BAD);
        Due.due("feed least", x.feed(Integer.MIN_VALUE), WaxCloth.BAD);
        Due.due("feed greatest", x.feed(Integer.MAX_VALUE), WaxCloth.BAD);
        Due.due("nothing fed", x.count(8), 0);
        Due.due("feed 0", x.feed(0), 1);
        Due.due("feed 255", x.feed(255), 2);
        for (int n = 3; n <= 80; n++) {
            Due.due("feed the " + n + "th", x.feed('w'), n);
        }
        Due.due("feed beyond 80", x.feed('w'), WaxCloth.FULL);
        Due.due("BAD ahead of FULL", x.feed(256), WaxCloth.BAD);
        Due.due("80 bytes", x.count(8), 80);
        Due.due("a FAULT at 0", x.cloth(), -100);
        Due.due("THE TAPE is empty then", x.count(8), 0);
        Due.due("feed again", x.feed('w'), 1);
    }

    private static void read(String tape, int squares) {
        WaxCloth x = new WaxCloth();
        Due.due("cloth of " + tape, Due.cloth(x, tape), squares);
        Due.due("THE TAPE behind " + tape, x.count(8), 0);
        Due.due("SQUARES of " + tape, x.count(0), squares);
    }

    private static void clothsThatAreRead() {
        read("wc0;000;0", 1);
        read("ww7;333;0", 1);
        read("wc1,l2,s3,w4,f1;300,030,013;02,134", 5);
        read("wc0,c0,c0,c0,c0,c0,c0,c0;000,111,222,333;01234567,7,0", 8);
    }

    private static void fault(String tape, int place) {
        WaxCloth x = new WaxCloth();
        Due.due("FAULT of " + tape, Due.cloth(x, tape), -100 - place);
        Due.due("no CLOTH by " + tape, x.count(0), 0);
        Due.due("no TAPE behind " + tape, x.count(8), 0);
    }

    private static void faults() {
        String whole = "wc0,l1;000,123;0,01";
        for (int end = 0; end < whole.length() - 3; end++) {
            fault(whole.substring(0, end), end);
        }
        fault(whole.substring(0, whole.length() - 2), whole.length() - 2);
        fault(" wc0;000;0", 0);
        fault("Wc0;000;0", 0);
        fault("cc0;000;0", 0);
        fault("w;000;0", 1);
        fault("wx0;000;0", 1);
        fault("w000;0", 1);
        fault("wc;000;0", 2);
        fault("wc,c0;000;0", 2);
        fault("wc0,c0,c0,c0,c0;4", 16);
        fault("wc0,c0,c0,c0,c0;000,4", 20);
        fault("wC0;000;0", 1);
        fault("wc8;000;0", 2);
        fault("wc/;000;0", 2);
        fault("wc ;000;0", 2);
        fault("wc0 ;000;0", 3);
        fault("wc00;000;0", 3);
        fault("wc0,;000;0", 4);
        fault("wc0,,c0;000;0", 4);
        fault("wc0,c0,c0,c0,c0,c0,c0,c0,c0;000;0", 24);
        fault("wc0,c0,c0,c0,c0,c0,c0,c0,", 24);
        fault("wc0;;0", 4);
        fault("wc0;400;0", 4);
        fault("wc0;040;0", 5);
        fault("wc0;004;0", 6);
        fault("wc0;00;0", 6);
        fault("wc0;0000;0", 7);
        fault("wc0;000,;0", 8);
        fault("wc0;000,000,000,000,000;0", 19);
        fault("wc0;000;", 8);
        fault("wc0;000;,0", 8);
        fault("wc0;000;1", 8);
        fault("wc0;000;8", 8);
        fault("wc0;000;00", 9);
        fault("wc0;000;0;", 9);
        fault("wc0;000;0 ", 9);
        fault("wc0,c0;000;10", 12);
        fault("wc0,c0;000;012", 13);
        fault("wc0,c0;000;0,", 13);
        fault("wc0,c0;000;0,,1", 13);
        fault("wc0,c0;000;0,1,01,0", 17);
        fault("wc0,c0;000;0,1,01,", 17);
        WaxCloth x = new WaxCloth();
        for (int b : new int[] {'w', 'c', '0', 255}) {
            x.feed(b);
        }
        Due.due("FAULT of byte 255", x.cloth(), -103);
    }

    private static void faultsLeaveAllElse() {
        WaxCloth x = Due.withCloth("wc1;100;0");
        Due.longs(x, 2, 5);
        x.image(1);
        x.does(0);
        x.does(10);
        Due.due("a FAULT", Due.cloth(x, "wc0;000;1"), -108);
        Due.due("SQUARES stay", x.count(0), 1);
        Due.due("WISHED stays", x.square(0, 1), 1);
        Due.due("COLOUR stays", x.square(0, 6), 1);
        Due.due("WAX stays", x.square(0, 2), 3);
        Due.due("the DYE stays", x.dye(0, 0), 1);
        Due.due("DOINGS stay", x.count(3), 2);
        Due.due("what can be undone stays", x.undo(), 1);
        Due.due("the SHEET stays", x.drop(2), 1);
        Due.due("the IMAGE stays", x.restore(1), 0);
    }

    private static void aClothInPlaceOfAnother() {
        WaxCloth x = Due.withCloth("wc1,s2;103,330;0,1,01");
        Due.longs(x, 0, 1, 2, 3);
        x.does(0);
        x.does(12);
        x.image(0);
        Due.due("another CLOTH", Due.cloth(x, "ww1,f2,l3;003;012"), 3);
        Due.due("its SQUARES", x.count(0), 3);
        Due.due("its DYES", x.count(1), 1);
        Due.due("its STENCILS", x.count(2), 1);
        Due.due("no DOINGS", x.count(3), 0);
        Due.due("no WAX", x.count(5), 0);
        Due.due("no DYE in it", x.count(6), 0);
        Due.due("nothing to undo", x.undo(), WaxCloth.NONE);
        Due.due("no second DYE", x.does(1), WaxCloth.BAD);
        Due.due("no second STENCIL", x.does(11), WaxCloth.BAD);
        Due.due("the SHEET stays", x.drop(0), 3);
        Due.due("the IMAGE stays", x.restore(0), 2);
        Due.due("SQUARES of the IMAGE", x.count(0), 2);
    }
}
