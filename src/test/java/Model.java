import java.util.ArrayList;
import java.util.Arrays;
import java.util.HashSet;
import java.util.List;
import java.util.Set;

/**
 * The document once more, in the plainest way that can be thought of and without a look at
 * the program: no row is passed over, nothing is packed, every case is gone through.
 */
final class Model {
    private static final class Square {
        String kind;
        int wished;
        int[] has = new int[3];
        int wax;

        Square same() {
            Square s = new Square();
            s.kind = kind;
            s.wished = wished;
            s.has = has.clone();
            s.wax = wax;
            return s;
        }

        int hue() {
            int most = Math.max(has[0], Math.max(has[1], has[2]));
            int hue = 0;
            for (int c = 0; c < 3; c++) {
                if (has[c] != 0 && has[c] >= most / 2.0) {
                    hue += 1 << c;
                }
            }
            return hue;
        }

        int dark() {
            return has[0] + has[1] + has[2];
        }

        boolean right() {
            return hue() == wished;
        }

        public String toString() {
            return wax + Arrays.toString(has);
        }
    }

    private static final class Whole {
        List<Square> squares = new ArrayList<>();
        List<int[]> dyes = new ArrayList<>();
        List<List<Integer>> stencils = new ArrayList<>();
        int doings;

        Whole same() {
            Whole w = new Whole();
            for (Square s : squares) {
                w.squares.add(s.same());
            }
            w.dyes = dyes;
            w.stencils = stencils;
            w.doings = doings;
            return w;
        }

        List<Integer> all() {
            List<Integer> all = new ArrayList<>();
            for (int d = 0; d < dyes.size(); d++) {
                all.add(d);
            }
            for (int s = 0; s < stencils.size(); s++) {
                all.add(10 + s);
            }
            all.add(20);
            all.add(21);
            return all;
        }

        void act(int doing) {
            for (int i = 0; i < squares.size(); i++) {
                Square s = squares.get(i);
                if (doing == 20) {
                    s.wax = 0;
                } else if (doing == 21) {
                    for (int c = 0; c < 3 && s.wax == 0; c++) {
                        s.has[c] = Math.max(0, s.has[c] - 1);
                    }
                } else if (doing >= 10) {
                    s.wax = stencils.get(doing - 10).contains(i) ? 3 : s.wax;
                } else if (s.wax > 0) {
                    s.wax = Math.max(0, s.wax - crack(s.kind));
                } else {
                    for (int c = 0; c < 3; c++) {
                        s.has[c] = Math.min(9, s.has[c] + take(s.kind, dyes.get(doing)[c], s.has[c]));
                    }
                }
            }
        }

        int right() {
            int set = 0;
            for (int i = 0; i < squares.size(); i++) {
                set |= squares.get(i).right() ? 1 << i : 0;
            }
            return set;
        }
    }

    static int take(String kind, int bath, int has) {
        switch (kind) {
            case "COTTON": return bath;
            case "LINEN": return Math.min(2, take("COTTON", bath, has));
            case "SILK": return take("COTTON", bath, has) == 0 ? 0 : 1 + take("COTTON", bath, has);
            case "WOOL": return bath / 2 + (bath == 0 ? 0 : 1);
            case "FELT": return has >= 4 ? 0 : take("WOOL", bath, has);
            default: throw new IllegalArgumentException(kind);
        }
    }

    private static int crack(String kind) {
        switch (kind) {
            case "COTTON": return 1;
            case "LINEN": return crack("COTTON");
            case "SILK": return crack("COTTON") + 1;
            case "WOOL": return 0;
            case "FELT": return crack("WOOL") + 1;
            default: throw new IllegalArgumentException(kind);
        }
    }

    static final List<String> KINDS = List.of("STUFF", "COTTON", "LINEN", "SILK", "WOOL", "FELT");
    private static final String LETTERS = " clswf";

    private String tape = "";
    private Whole now;
    private final List<Whole> past = new ArrayList<>();
    private final Whole[] images = new Whole[2];
    private final long[][] rows = new long[4][];
    private final int[] lanes = new int[4];

    long call(String name, long[] a) {
        int[] b = new int[6];
        for (int i = 0; i < a.length; i++) {
            b[i] = (int) a[i];
        }
        switch (name) {
            case "feed": return feed(b[0]);
            case "cloth": return cloth();
            case "square": return square(b[0], b[1]);
            case "as": return as(b[0], b[1]);
            case "dye": return bad(!dyeIs(b[0]) || b[1] < 0 || b[1] > 2) ? -1 : now.dyes.get(b[0])[b[1]];
            case "stencil": return stencil(b[0]);
            case "takes": return takes(b[0], b[1], b[2]);
            case "does": return does(b[0]);
            case "undo": return undo();
            case "wish": return wish(b[0], b[1]);
            case "image": return image(b[0]);
            case "restore": return restore(b[0]);
            case "plan": return plan(b[0], b[1]);
            case "rows": return rows(b[0], new int[] {b[1], b[2], b[3]}, b[4], b[5]);
            case "shades": return shades(b[0], b[1]);
            case "cracks": return cracks(b[0], b[1], b[2], b[3]);
            case "decades": return decades(b[0], b[1], b[2]);
            case "sheet": return sheet(b[0], b[1], b[2]);
            case "drop": return drop(b[0]);
            case "item": return item(b[0], b[1], b[2], a[3]);
            case "copy": return copy(b[0], b[1], b[2], b[3], b[4]);
            case "log": return log(b[0], b[1], b[2]);
            case "ahead": return ahead(b[0], b[1], b[2], b[3], b[4], b[5]);
            case "round": return round(b[0], b[1], b[2], b[3], b[4]);
            case "kinds": return kinds(b[0], b[1], b[2], b[3], b[4]);
            case "wishes": return wishes(b[0], b[1], b[2]);
            case "count": return count(b[0]);
            default: throw new IllegalArgumentException(name);
        }
    }

    private static boolean bad(boolean is) {
        return is;
    }

    /** How many items a SHEET has; below 0: it is nothing. */
    int itemsOf(int sheet) {
        return rows[sheet] == null ? -1 : rows[sheet].length;
    }

    int laneOf(int sheet) {
        return lanes[sheet];
    }

    private boolean squareIs(int square) {
        return now != null && square >= 0 && square < now.squares.size();
    }

    private boolean dyeIs(int dye) {
        return now != null && dye >= 0 && dye < now.dyes.size();
    }

    private int feed(int letter) {
        if (letter < 0 || letter > 255) {
            return -1;
        }
        if (tape.length() == 80) {
            return -3;
        }
        tape += (char) letter;
        return tape.length();
    }

    /** A TAPE is a beginning of a CLOTH, if something can stand behind it; the FAULT ends the longest such. */
    private int cloth() {
        String t = tape;
        tape = "";
        if (whole(t)) {
            now = read(t);
            past.clear();
            return now.squares.size();
        }
        for (int n = 1; n <= t.length(); n++) {
            if (!beginning(t.substring(0, n))) {
                return -100 - (n - 1);
            }
        }
        return -100 - t.length();
    }

    private static boolean shaped(String t) {
        return t.matches("w[clswf][0-7](,[clswf][0-7]){0,7};[0-3]{3}(,[0-3]{3}){0,3};[0-7]{1,8}(,[0-7]{1,8}){0,2}");
    }

    private static boolean whole(String t) {
        if (!shaped(t)) {
            return false;
        }
        String[] parts = t.split(";");
        int squares = parts[0].split(",").length;
        for (String stencil : parts[2].split(",")) {
            for (int i = 0; i < stencil.length(); i++) {
                if (stencil.charAt(i) - '0' >= squares || i > 0 && stencil.charAt(i) <= stencil.charAt(i - 1)) {
                    return false;
                }
            }
        }
        return true;
    }

    private static boolean beginning(String t) {
        String[] ends = {"", "w", "c", "0", "00", "000", ";000;0", "c0;000;0", "0;000;0", "wc0;000;0", "000;0", "00;0", "0;0", ";0"};
        for (String end : ends) {
            if (whole(t + end)) {
                return true;
            }
        }
        return false;
    }

    private static Whole read(String t) {
        Whole w = new Whole();
        String[] parts = t.substring(1).split(";");
        for (String told : parts[0].split(",")) {
            Square s = new Square();
            s.kind = KINDS.get(LETTERS.indexOf(told.charAt(0)));
            s.wished = told.charAt(1) - '0';
            w.squares.add(s);
        }
        for (String told : parts[1].split(",")) {
            w.dyes.add(new int[] {told.charAt(0) - '0', told.charAt(1) - '0', told.charAt(2) - '0'});
        }
        for (String told : parts[2].split(",")) {
            List<Integer> on = new ArrayList<>();
            for (char c : told.toCharArray()) {
                on.add(c - '0');
            }
            w.stencils.add(on);
        }
        return w;
    }

    private int square(int square, int what) {
        if (!squareIs(square) || what < 0 || what > 8) {
            return -1;
        }
        Square s = now.squares.get(square);
        int[] told = {KINDS.indexOf(s.kind), s.wished, s.wax, s.hue(), s.dark(), s.right() ? 1 : 0, s.has[0], s.has[1], s.has[2]};
        return told[what];
    }

    private int as(int square, int kind) {
        if (!squareIs(square) || kind < 0 || kind > 5) {
            return -1;
        }
        String is = now.squares.get(square).kind;
        String as = KINDS.get(kind);
        boolean such = as.equals("STUFF") || as.equals(is)
            || as.equals("COTTON") && (is.equals("LINEN") || is.equals("SILK")) || as.equals("WOOL") && is.equals("FELT");
        return such ? square : -12;
    }

    private int stencil(int stencil) {
        if (now == null || stencil < 0 || stencil >= now.stencils.size()) {
            return -1;
        }
        int set = 0;
        for (int s : now.stencils.get(stencil)) {
            set += 1 << s;
        }
        return set;
    }

    private int takes(int square, int dye, int colour) {
        if (!squareIs(square) || !dyeIs(dye) || colour < 0 || colour > 2) {
            return -1;
        }
        Whole then = now.same();
        then.act(dye);
        return then.squares.get(square).has[colour] - now.squares.get(square).has[colour];
    }

    private int does(int doing) {
        if (now == null || !now.all().contains(doing)) {
            return -1;
        }
        past.add(now.same());
        if (past.size() > 24) {
            past.remove(0);
        }
        now.act(doing);
        now.doings++;
        return now.right();
    }

    private int undo() {
        if (past.isEmpty()) {
            return -4;
        }
        Whole then = past.remove(past.size() - 1);
        for (int s = 0; s < now.squares.size(); s++) {
            then.squares.get(s).wished = now.squares.get(s).wished;
        }
        now = then;
        return past.size();
    }

    private int wish(int square, int hue) {
        if (!squareIs(square) || hue < 0 || hue > 7) {
            return -1;
        }
        int was = now.squares.get(square).wished;
        now.squares.get(square).wished = hue;
        return was;
    }

    private int image(int k) {
        if (k != 0 && k != 1) {
            return -1;
        }
        if (now == null) {
            return -2;
        }
        images[k] = now.same();
        return now.doings;
    }

    private int restore(int k) {
        if (k != 0 && k != 1) {
            return -1;
        }
        if (images[k] == null) {
            return -2;
        }
        now = images[k].same();
        past.clear();
        return now.doings;
    }

    private List<Integer> bestRow;
    private int bestRight;

    private int plan(int n, int k) {
        if (n < 0 || n > 4 || k < -2) {
            return -1;
        }
        if (now == null) {
            return -2;
        }
        bestRow = new ArrayList<>();
        bestRight = -1;
        for (int length = 0; length <= n; length++) {
            planFrom(now, new ArrayList<>(), length);
        }
        return k == -2 ? bestRight : k == -1 ? bestRow.size() : k < bestRow.size() ? bestRow.get(k) : -4;
    }

    private void planFrom(Whole from, List<Integer> row, int length) {
        if (row.size() == length) {
            int right = Integer.bitCount(from.right());
            if (right > bestRight) {
                bestRight = right;
                bestRow = new ArrayList<>(row);
            }
            return;
        }
        for (int doing : from.all()) {
            Whole then = from.same();
            then.act(doing);
            row.add(doing);
            planFrom(then, row, length);
            row.remove(row.size() - 1);
        }
    }

    /** All rows of n DYES, and behind each what the SQUARE would have. */
    private void shadesOf(int square, int n, List<int[]> all, List<int[]> have) {
        int dyes = now.dyes.size();
        for (int number = 0; number < Math.round(Math.pow(dyes, n)); number++) {
            int[] row = new int[n];
            int rest = number;
            for (int i = n - 1; i >= 0; i--) {
                row[i] = rest % dyes;
                rest /= dyes;
            }
            int[] has = new int[3];
            for (int dye : row) {
                for (int c = 0; c < 3; c++) {
                    has[c] = Math.min(9, has[c] + take(now.squares.get(square).kind, now.dyes.get(dye)[c], has[c]));
                }
            }
            all.add(row);
            have.add(has);
        }
    }

    private int rows(int square, int[] shade, int n, int k) {
        boolean wrong = !squareIs(square) || n < 0 || n > 5 || k < -1;
        for (int c : shade) {
            wrong |= c < 0 || c > 9;
        }
        if (wrong) {
            return -1;
        }
        List<int[]> all = new ArrayList<>();
        List<int[]> have = new ArrayList<>();
        shadesOf(square, n, all, have);
        int[] first = null;
        int found = 0;
        for (int r = 0; r < all.size(); r++) {
            if (Arrays.equals(have.get(r), shade)) {
                found++;
                first = first == null ? all.get(r) : first;
            }
        }
        return k == -1 ? found : first == null || k >= n ? -4 : first[k];
    }

    private int shades(int square, int n) {
        if (!squareIs(square) || n < 0 || n > 5) {
            return -1;
        }
        List<int[]> have = new ArrayList<>();
        shadesOf(square, n, new ArrayList<>(), have);
        Set<String> unlike = new HashSet<>();
        for (int[] shade : have) {
            unlike.add(Arrays.toString(shade));
        }
        return unlike.size();
    }

    private int cracks(int dye, int right, int q, int what) {
        if (!dyeIs(dye) || right < 0 || right > 8 || q < 0 || q > 10 || what < 0 || what > 1) {
            return -1;
        }
        long above = 0;
        long below = 0;
        for (int fallen = 0; fallen < 1 << now.squares.size(); fallen++) {
            Whole then = now.same();
            long weight = 1;
            for (int s = 0; s < then.squares.size(); s++) {
                boolean falls = (fallen >> s & 1) == 1;
                if (then.squares.get(s).wax > 0) {
                    weight *= falls ? q : 10 - q;
                    then.squares.get(s).wax = falls ? 0 : then.squares.get(s).wax;
                } else {
                    weight *= falls ? 1 : 0;
                }
            }
            then.act(dye);
            below += weight;
            above += Integer.bitCount(then.right()) >= right ? weight : 0;
        }
        for (long d = 2; d <= 5; d += 3) {
            while (above % d == 0 && below % d == 0) {
                above /= d;
                below /= d;
            }
        }
        return (int) (what == 0 ? above : below);
    }

    private int decades(int n, int seed, int what) {
        if (n < 0 || n > 60 || seed < 1 || seed > 999999 || what < 0 || what > 1) {
            return -1;
        }
        if (now == null) {
            return -2;
        }
        Whole then = now.same();
        long x = seed;
        int rights = 0;
        for (int i = 0; i < n; i++) {
            x = 16807 * x % 2147483647;
            then.act(then.all().get((int) (x / 4 % then.all().size())));
            rights += Integer.bitCount(then.right());
        }
        int dark = 0;
        for (Square s : then.squares) {
            dark += s.dark();
        }
        return what == 0 ? dark : rights;
    }

    private int sheet(int sheet, int lane, int n) {
        if (sheet < 0 || sheet > 3 || lane < 0 || lane > 3 || n > 24) {
            return -1;
        }
        if (n < 0) {
            return -14;
        }
        rows[sheet] = new long[n];
        lanes[sheet] = lane;
        return n;
    }

    private int drop(int sheet) {
        if (sheet < 0 || sheet > 3) {
            return -1;
        }
        if (rows[sheet] == null) {
            return -11;
        }
        int had = rows[sheet].length;
        rows[sheet] = null;
        return had;
    }

    /** The refusals that all calls on SHEETS share; 0: none. */
    private int refused(boolean wrong, int sheet, int lane, long i, long n) {
        if (wrong || sheet < 0 || sheet > 3 || lane < 0 || lane > 3) {
            return -1;
        }
        if (rows[sheet] == null) {
            return -11;
        }
        if (lanes[sheet] != lane) {
            return -12;
        }
        return i < 0 || i + n > rows[sheet].length ? -13 : 0;
    }

    private long item(int sheet, int lane, int i, long v) {
        int refused = refused(false, sheet, lane, i, 1);
        if (refused != 0) {
            return refused;
        }
        int bits = 8 << lane;
        rows[sheet][i] = v << 64 - bits >> 64 - bits;
        return rows[sheet][i];
    }

    private int copy(int from, int i, int to, int j, int n) {
        if (from < 0 || from > 3 || to < 0 || to > 3) {
            return -1;
        }
        if (rows[from] == null || rows[to] == null) {
            return -11;
        }
        if (lanes[from] != lanes[to]) {
            return -12;
        }
        if (n < 0 || i < 0 || j < 0 || (long) i + n > rows[from].length || (long) j + n > rows[to].length) {
            return -13;
        }
        long[] taken = Arrays.copyOfRange(rows[from], i, i + n);
        for (int k = 0; k < n; k++) {
            rows[to][j + k] = taken[k];
        }
        return n;
    }

    private int log(int sheet, int lane, int i) {
        int refused = refused(now == null, sheet, lane, i, now == null ? 0 : now.squares.size());
        if (refused != 0) {
            return refused;
        }
        for (int s = 0; s < now.squares.size(); s++) {
            rows[sheet][i + s] = now.squares.get(s).hue();
        }
        return now.squares.size();
    }

    private boolean allDoings(int sheet, int i, int n) {
        for (int d = i; d < i + n; d++) {
            long item = rows[sheet][d];
            if (item != (int) item || !now.all().contains((int) item)) {
                return false;
            }
        }
        return true;
    }

    private int ahead(int square, int sheet, int lane, int i, int n, int what) {
        int refused = refused(!squareIs(square) || n < 0 || n > 20 || what < 0 || what > 2, sheet, lane, i, n);
        if (refused != 0) {
            return refused;
        }
        if (!allDoings(sheet, i, n)) {
            return -2;
        }
        Whole then = now.same();
        for (int d = i; d < i + n; d++) {
            then.act((int) rows[sheet][d]);
        }
        Square s = then.squares.get(square);
        return what == 0 ? s.hue() : what == 1 ? s.dark() : s.wax;
    }

    private int round(int sheet, int lane, int i, int n, int what) {
        int refused = refused(now == null || n < 1 || n > 20 || what < 0 || what > 1, sheet, lane, i, n);
        if (refused != 0) {
            return refused;
        }
        if (!allDoings(sheet, i, n)) {
            return -2;
        }
        Whole then = now.same();
        List<String> seen = new ArrayList<>();
        while (!seen.contains(then.squares.toString())) {
            seen.add(then.squares.toString());
            for (int d = i; d < i + n; d++) {
                then.act((int) rows[sheet][d]);
            }
        }
        int first = seen.indexOf(then.squares.toString());
        return what == 0 ? first : seen.size() - first;
    }

    private int kinds(int sheet, int lane, int i, int n, int what) {
        int refused = refused(n < 1 || n > 7 || what < -1 || what > 9, sheet, lane, i, 3L * n);
        if (refused != 0) {
            return refused;
        }
        List<String> may = new ArrayList<>(KINDS.subList(1, 6));
        for (int t = i; t < i + 3 * n; t += 3) {
            long had = rows[sheet][t];
            long bath = rows[sheet][t + 1];
            long took = rows[sheet][t + 2];
            if (had < 0 || had > 9 || bath < 0 || bath > 3) {
                return -2;
            }
            may.removeIf(kind -> take(kind, (int) bath, (int) had) != took);
        }
        if (what == -1) {
            int set = 0;
            for (String kind : may) {
                set += 1 << KINDS.indexOf(kind);
            }
            return set;
        }
        int best = -4;
        int least = may.isEmpty() ? 0 : 99;
        for (int bath = 1; bath <= 3; bath++) {
            int[] parts = new int[99];
            for (String kind : may) {
                parts[take(kind, bath, what)]++;
            }
            int greatest = Arrays.stream(parts).max().getAsInt();
            if (greatest < least) {
                least = greatest;
                best = bath;
            }
        }
        return best;
    }

    private int wishes(int sheet, int lane, int i) {
        int refused = refused(now == null, sheet, lane, i, now == null ? 0 : now.squares.size());
        if (refused != 0) {
            return refused;
        }
        int set = 0;
        for (int s = 0; s < now.squares.size(); s++) {
            set += rows[sheet][i + s] == now.squares.get(s).hue() ? 1 << s : 0;
        }
        return set;
    }

    private int count(int what) {
        if (what < 0 || what > 8) {
            return -1;
        }
        if (what == 8 || now == null) {
            return what == 8 ? tape.length() : 0;
        }
        int waxed = 0;
        int dark = 0;
        for (int s = 0; s < now.squares.size(); s++) {
            waxed += now.squares.get(s).wax > 0 ? 1 << s : 0;
            dark += now.squares.get(s).dark();
        }
        int[] told = {now.squares.size(), now.dyes.size(), now.stencils.size(), now.doings, now.right(), waxed, dark, past.size()};
        return told[what];
    }
}
