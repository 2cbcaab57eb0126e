/** What the tests share: answers held against those that are due, and a TAPE fed at once. */
final class Due {
    private static int asked = 0;
    private static int wrong = 0;

    private Due() {
    }

    static void due(String call, long got, long want) {
        asked++;
        if (got != want) {
            wrong++;
            System.out.println(call + " answered " + got + ", due is " + want);
        }
    }

    static int cloth(WaxCloth x, String tape) {
        for (int i = 0; i < tape.length(); i++) {
            due("feed " + tape.charAt(i) + " of " + tape, x.feed(tape.charAt(i)), i + 1);
        }
        return x.cloth();
    }

    /** A new object with a CLOTH that is known to be one. */
    static WaxCloth withCloth(String tape) {
        WaxCloth x = new WaxCloth();
        int squares = cloth(x, tape);
        if (squares < 1) {
            due("cloth() of " + tape, squares, 1);
        }
        return x;
    }

    static WaxCloth after(String tape, int... doings) {
        WaxCloth x = withCloth(tape);
        for (int doing : doings) {
            x.does(doing);
        }
        return x;
    }

    /** A SHEET of longs that holds these items. */
    static void longs(WaxCloth x, int sheet, long... items) {
        lane(x, sheet, 3, items);
    }

    static void lane(WaxCloth x, int sheet, int lane, long... items) {
        due("sheet " + sheet, x.sheet(sheet, lane, items.length), items.length);
        for (int i = 0; i < items.length; i++) {
            x.item(sheet, lane, i, items[i]);
        }
    }

    static void end() {
        System.out.println(wrong == 0 ? asked + " answers are as due" : wrong + " of " + asked + " answers are not as due");
        if (wrong != 0) {
            System.exit(1);
        }
    }
}
