/** The boundaries of THE TAPE and the CLOTH (terms 1, promises 1 to 3), sentence by sentence. */
public final class TapeEdgesTest {
    private static final String EIGHT = "wc0,l1,s2,w3,f4,c5,c6,c7";
    private static final String FOUR = ";000,123,321,333";
    private static final String LONGEST = EIGHT + FOUR + ";01234567,01234567,01234567";

    public static void main(String[] args) {
        atMost80Bytes();
        everyByteComesBehind();
        whatMayStandWhere();
        oneToEightSquares();
        oneToFourDyes();
        oneToThreeStencils();
        oneToEightSquaresOfAStencil();
        aStencilRises();
        eachLetterAndFigure();
        nothingBehindIt();
        theEndIsHowManyBytesThereAre();
        theFirstOfSeveralFaults();
        theTapeIsEmptyThen();
        aFaultLeavesAllElse();
        aClothLeavesAllElse();
        Due.end();
    }

    private static int read(String tape) {
        return Due.cloth(new WaxCloth(), tape);
    }

    private static void fault(String tape, int place) {
        Due.due("FAULT of " + tape, read(tape), -100 - place);
    }

    /** n times the same, with a comma between. */
    private static String times(int n, String one) {
        return (one + ",").repeat(n).substring(0, n * (one.length() + 1) - 1);
    }

    /** "THE TAPE has at most 80 bytes": the 80th is let through, the 81st is not, and changes nothing. */
    private static void atMost80Bytes() {
        WaxCloth x = new WaxCloth();
        for (int n = 1; n <= 79; n++) {
            x.feed(n <= LONGEST.length() ? LONGEST.charAt(n - 1) : ' ');
        }
        Due.due("79 bytes", x.count(8), 79);
        Due.due("the 80th", x.feed('x'), 80);
        for (int n = 0; n < 3; n++) {
            Due.due("the 81st", x.feed('y'), WaxCloth.FULL);
            Due.due("still 80", x.count(8), 80);
        }
        for (int wrong : new int[] {-1, 256, Integer.MIN_VALUE, Integer.MAX_VALUE}) {
            Due.due("BAD is named ahead of FULL: " + wrong, x.feed(wrong), WaxCloth.BAD);
        }
        Due.due("80 bytes, a FAULT behind the longest CLOTH", x.cloth(), -100 - LONGEST.length());
        Due.due("room again", x.feed('w'), 1);
        fullOfABeginning();
    }

    /** No beginning of a CLOTH is longer than the longest CLOTH, so that a full TAPE is always a FAULT. */
    private static void fullOfABeginning() {
        Due.due("bytes of the longest CLOTH", LONGEST.length(), 67);
        Twin.changesNothing("FULL", TapeEdgesTest::full, x -> x.feed('w'), WaxCloth.FULL);
        WaxCloth x = full();
        x.feed('w');
        Due.due("the FAULT of a full TAPE", x.cloth(), -100);
    }

    private static WaxCloth full() {
        WaxCloth x = Due.withCloth("wc1;100;0");
        x.does(0);
        for (int n = 1; n <= 80; n++) {
            x.feed('0');
        }
        return x;
    }

    /** "A byte (0 .. 255)": each of them is let through, in its place. */
    private static void everyByteComesBehind() {
        for (int letter = 0; letter <= 255; letter++) {
            WaxCloth x = new WaxCloth();
            Due.due("feed " + letter, x.feed(letter), 1);
            Due.due("one byte", x.count(8), 1);
            Due.due("what it is", x.cloth(), letter == 'w' ? -101 : -100);
        }
    }

    /** Behind a beginning all 256 bytes are tried: those that may stand there, and all others. */
    private static void whatMayStandWhere() {
        next("", "w");
        next("w", "clswf");
        next("wc", "01234567");
        next("wf7", ",;");
        next("wf7,", "clswf");
        next("wc0,w", "01234567");
        next("w" + times(7, "l3"), ",;");
        next(EIGHT, ";");
        next("wc0;", "0123");
        next("wc0;3", "0123");
        next("wc0;30", "0123");
        next("wc0;302", ",;");
        next("wc0;302,", "0123");
        next("wc0;302,1", "0123");
        next("wc0;302,11", "0123");
        next("wc0;" + times(3, "012"), ",;");
        next("wc0;" + times(4, "012"), ";");
        next("wc0;000;", "0");
        next("wc0,c0,c0;000;", "012");
        next(EIGHT + ";000;", "01234567");
        next("wc0;000;0", ",");
        next("wc0,c0,c0;000;0", "12,");
        next(EIGHT + FOUR + ";0", "1234567,");
        next(EIGHT + FOUR + ";5", "67,");
        next(EIGHT + FOUR + ";7", ",");
        next(EIGHT + FOUR + ";0123456", "7,");
        next(EIGHT + FOUR + ";01234567", ",");
        next("wc0;000;0,", "0");
        next(EIGHT + FOUR + ";7,", "01234567");
        next(EIGHT + FOUR + ";7,3", "4567,");
        next(EIGHT + FOUR + ";7,3,", "01234567");
        next(EIGHT + FOUR + ";7,3,2", "34567");
        next(LONGEST, "");
    }

    private static void next(String beginning, String may) {
        boolean ofStencils = beginning.indexOf(';') != beginning.lastIndexOf(';');
        int squares = beginning.split(";")[0].split(",").length;
        for (int letter = 0; letter <= 255; letter++) {
            boolean stands = may.indexOf(letter) >= 0;
            boolean whole = stands && ofStencils && letter != ',';
            int place = beginning.length() + (stands ? 1 : 0);
            Due.due("byte " + letter + " behind " + beginning, read(beginning + (char) letter), whole ? squares : -100 - place);
        }
    }

    /** "1 to 8 SQUARES"; "a SQUARE too many: the , ahead". */
    private static void oneToEightSquares() {
        fault("w;000;0", 1);
        for (int n = 1; n <= 8; n++) {
            WaxCloth x = new WaxCloth();
            Due.due(n + " SQUARES", Due.cloth(x, "w" + times(n, "s5") + ";000;0"), n);
            Due.due("count", x.count(0), n);
            Due.due("the last", x.square(n - 1, 0), 3);
            Due.due("WISHED of the last", x.square(n - 1, 1), 5);
            Due.due("one beyond", x.square(n, 0), WaxCloth.BAD);
        }
        fault("w" + times(9, "c0") + ";000;0", 24);
        fault("w" + times(8, "c0") + ",", 24);
    }

    /** "1 to 4 DYES"; "a DYE too many: the , ahead". */
    private static void oneToFourDyes() {
        fault("wc0;;0", 4);
        for (int n = 1; n <= 4; n++) {
            WaxCloth x = new WaxCloth();
            Due.due(n + " DYES", Due.cloth(x, "wc0;" + times(n, "123") + ";0"), 1);
            Due.due("count", x.count(1), n);
            Due.due("the last", x.dye(n - 1, 2), 3);
            Due.due("one beyond", x.dye(n, 2), WaxCloth.BAD);
            Due.due("no BATH of it", x.does(n), WaxCloth.BAD);
            Due.due("a BATH of the last", x.does(n - 1), 0);
        }
        fault("wc0;" + times(5, "000") + ";0", 19);
        fault("wc0;" + times(4, "000") + ",", 19);
    }

    /** "1 to 3 STENCILS"; "a STENCIL too many: the , ahead". */
    private static void oneToThreeStencils() {
        fault("wc0;000;", 8);
        for (int n = 1; n <= 3; n++) {
            WaxCloth x = new WaxCloth();
            Due.due(n + " STENCILS", Due.cloth(x, "wc0,c0;000;" + times(n, "01")), 2);
            Due.due("count", x.count(2), n);
            Due.due("the last", x.stencil(n - 1), 3);
            Due.due("one beyond", x.stencil(n), WaxCloth.BAD);
            Due.due("it can't be laid", x.does(10 + n), WaxCloth.BAD);
            Due.due("the last is laid", x.does(9 + n), 3);
        }
        fault("wc0,c0;000;" + times(4, "01"), 19);
        fault("wc0;000;0,0,0,", 13);
    }

    /** "each 1 to 8 SQUARES (figures)": no STENCIL is empty, and one more than all is none. */
    private static void oneToEightSquaresOfAStencil() {
        String figures = "01234567";
        for (int n = 1; n <= 8; n++) {
            WaxCloth x = Due.withCloth(EIGHT + ";000;" + figures.substring(0, n) + "," + figures.substring(8 - n));
            Due.due("the first " + n, x.stencil(0), (1 << n) - 1);
            Due.due("the last " + n, x.stencil(1), 255 - ((1 << 8 - n) - 1));
        }
        fault(EIGHT + ";000;01234567" + "8", 37);
        fault(EIGHT + ";000;01234567" + "7", 37);
        fault("wc0;000;,0", 8);
        fault("wc0;000;0,,0", 10);
        fault("wc0;000;0,0,", 12);
    }

    /** "rising"; "a SQUARE of a STENCIL that is none, or does not rise: that". */
    private static void aStencilRises() {
        for (int squares = 1; squares <= 8; squares++) {
            String cloth = "w" + times(squares, "c0") + ";000;";
            for (int first = 0; first <= 9; first++) {
                int place = cloth.length();
                Due.due(cloth + first, read(cloth + first), first < squares ? squares : -100 - place);
                for (int second = 0; second <= 9 && first < squares; second++) {
                    boolean rises = second > first && second < squares;
                    Due.due(cloth + first + second, read(cloth + first + second), rises ? squares : -101 - place);
                }
            }
        }
        Due.due("each STENCIL begins anew", read(EIGHT + ";000;7,7,0"), 8);
    }

    /** "each a letter, WISHED (a figure 0 to 7)", "each three figures 0 to 3". */
    private static void eachLetterAndFigure() {
        String letters = "clswf";
        for (int kind = 1; kind <= 5; kind++) {
            for (int wished = 0; wished <= 7; wished++) {
                WaxCloth x = Due.withCloth("w" + letters.charAt(kind - 1) + wished + ";000;0");
                Due.due("KIND", x.square(0, 0), kind);
                Due.due("WISHED", x.square(0, 1), wished);
            }
        }
        for (int dye = 0; dye < 64; dye++) {
            int[] amounts = {dye / 16, dye / 4 % 4, dye % 4};
            WaxCloth x = Due.withCloth("wc0;" + amounts[0] + amounts[1] + amounts[2] + ";0");
            for (int colour = 0; colour < 3; colour++) {
                Due.due("DYE " + dye + " COLOUR " + colour, x.dye(0, colour), amounts[colour]);
            }
        }
    }

    /** "nothing behind it". */
    private static void nothingBehindIt() {
        Due.due("the longest", read(LONGEST), 8);
        Due.due("the shortest", read("wc0;000;0"), 1);
        for (String behind : new String[] {" ", ";", "\n", "w", "\0", ";0", "wc0;000;0"}) {
            fault("wc0;000;0" + behind, 9);
            fault(LONGEST + behind, 67);
        }
    }

    /** "the end: how many bytes there are". */
    private static void theEndIsHowManyBytesThereAre() {
        fault("", 0);
        for (int n = 1; n <= LONGEST.length(); n++) {
            String tape = LONGEST.substring(0, n);
            boolean whole = n > EIGHT.length() + FOUR.length() + 1 && !tape.endsWith(",");
            Due.due("the first " + n + " bytes", read(tape), whole ? 8 : -100 - n);
        }
    }

    /** "the first byte that cannot stand there". */
    private static void theFirstOfSeveralFaults() {
        fault("xx8;444;9", 0);
        fault("wx8;444;9", 1);
        fault("wc8;444;9", 2);
        fault("wc0;444;9", 4);
        fault("wc0;044;9", 5);
        fault("wc0;004;9", 6);
        fault("wc0;000;9x", 8);
        fault("wc0;000;0xx", 9);
        fault("wc0;000;00,1", 9);
    }

    /** "THE TAPE, empty then", read or not. */
    private static void theTapeIsEmptyThen() {
        WaxCloth x = new WaxCloth();
        Due.due("a FAULT", Due.cloth(x, "wc0;000"), -107);
        Due.due("empty", x.count(8), 0);
        Due.due("the rest is no CLOTH", Due.cloth(x, ";0"), -100);
        Due.due("a CLOTH", Due.cloth(x, "wc0;000;0"), 1);
        Due.due("empty", x.count(8), 0);
        Due.due("nothing is read", x.cloth(), -100);
        Due.due("the CLOTH stays", x.count(0), 1);
    }

    private static WaxCloth richWithoutTape() {
        WaxCloth x = Twin.rich();
        x.cloth();
        return x;
    }

    /** "-100 less the place of a FAULT (all else stays)". */
    private static void aFaultLeavesAllElse() {
        Twin.changesNothing("a FAULT at the end", TapeEdgesTest::richWithoutTape, x -> Due.cloth(x, "wc7,c7;333,333;01,0,"), -120);
        Twin.changesNothing("a FAULT behind all", TapeEdgesTest::richWithoutTape, x -> Due.cloth(x, "wc7;333;0;"), -109);
        Twin.changesNothing("a FAULT at once", TapeEdgesTest::richWithoutTape, WaxCloth::cloth, -100);
    }

    /** "no DYE is in it, no WAX on it, no DOINGS; nothing can be undone; all else stays". */
    private static void aClothLeavesAllElse() {
        WaxCloth x = richWithoutTape();
        Due.due("WAX ahead of it", x.count(5), 15);
        Due.due("a CLOTH of the same text", Due.cloth(x, "wc0,l1,s2,w3,f4,c5,l6,s7;300,030,003,111;0246,0145,0123"), 8);
        for (int s = 0; s < 8; s++) {
            Due.due("WISHED as told", x.square(s, 1), s);
            Due.due("no WAX", x.square(s, 2), 0);
            Due.due("no DYE", x.square(s, 4), 0);
        }
        Due.due("no DOINGS", x.count(3), 0);
        Due.due("nothing can be undone", x.count(7), 0);
        Due.due("none can", x.undo(), WaxCloth.NONE);
        Due.due("IMAGE 1 was not kept", x.restore(1), WaxCloth.NOT);
        Due.due("IMAGE 0 stays", x.restore(0), 9);
        Due.due("SHEET 0 stays", x.wishes(0, 0, 0), 255);
        Due.due("SHEET 1 stays", x.wishes(1, 1, 16), 255);
        Due.due("SHEET 3 stays nothing", x.drop(3), WaxCloth.NULL);
    }
}
