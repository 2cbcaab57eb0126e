/** A call by its name, for the tests that go through many calls alike. */
final class Calls {
    private Calls() {
    }

    static long call(WaxCloth x, String name, long[] v) {
        int[] a = new int[6];
        for (int i = 0; i < v.length; i++) {
            a[i] = (int) v[i];
        }
        switch (name) {
            case "feed": return x.feed(a[0]);
            case "cloth": return x.cloth();
            case "square": return x.square(a[0], a[1]);
            case "as": return x.as(a[0], a[1]);
            case "dye": return x.dye(a[0], a[1]);
            case "stencil": return x.stencil(a[0]);
            case "takes": return x.takes(a[0], a[1], a[2]);
            case "does": return x.does(a[0]);
            case "undo": return x.undo();
            case "wish": return x.wish(a[0], a[1]);
            case "image": return x.image(a[0]);
            case "restore": return x.restore(a[0]);
            case "plan": return x.plan(a[0], a[1]);
            case "rows": return x.rows(a[0], a[1], a[2], a[3], a[4], a[5]);
            case "shades": return x.shades(a[0], a[1]);
            case "cracks": return x.cracks(a[0], a[1], a[2], a[3]);
            case "decades": return x.decades(a[0], a[1], a[2]);
            case "sheet": return x.sheet(a[0], a[1], a[2]);
            case "drop": return x.drop(a[0]);
            case "item": return x.item(a[0], a[1], a[2], v[3]);
            case "copy": return x.copy(a[0], a[1], a[2], a[3], a[4]);
            case "log": return x.log(a[0], a[1], a[2]);
            case "ahead": return x.ahead(a[0], a[1], a[2], a[3], a[4], a[5]);
            case "round": return x.round(a[0], a[1], a[2], a[3], a[4]);
            case "kinds": return x.kinds(a[0], a[1], a[2], a[3], a[4]);
            case "wishes": return x.wishes(a[0], a[1], a[2]);
            case "count": return x.count(a[0]);
            default: throw new IllegalArgumentException(name);
        }
    }
}
