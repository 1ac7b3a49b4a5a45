/** Promises 1 to 6: a new object, wide, bar, shape, tongs, terms. */
public final class BarTest {
    private static final Due DUE = new Due("BarTest");

    public static void main(String[] args) {
        newObject();
        wide();
        barAndShape();
        tongs();
        terms();
        DUE.close();
    }

    private static void newObject() {
        HotIron x = new HotIron();
        DUE.is("NONE", HotIron.NONE, -1);
        DUE.is("new count(0)", x.count(0), 4);
        DUE.is("new count(1)", x.count(1), 0);
        DUE.is("new count(2)", x.count(2), 0);
        DUE.is("new count(3)", x.count(3), 12);
        DUE.is("new count(4)", x.count(4), 0);
        for (int what = 5; what <= 9; what++) {
            DUE.is("new count(" + what + ")", x.count(what), 0);
        }
        DUE.is("new status()", x.status(), 0);
        DUE.is("new fault()", x.fault(), -1);
        DUE.is("new heats()", x.heats(), 0);
        for (int cell = 0; cell < 4; cell++) {
            DUE.is("new bar", x.bar(cell, 3), 3);
            DUE.is("new shape", x.shape(cell, 3), 3);
        }
        DUE.is("new tongs", x.tongs(1022), 1022);
        int[] first = {3, 3, 5, 1, 20};
        for (int what = 0; what < 5; what++) {
            DUE.is("new terms(" + what + ")", x.terms(what, first[what]), first[what]);
        }
    }

    private static void wide() {
        HotIron x = new HotIron();
        DUE.is("wide(2)", x.wide(2), -1);
        DUE.is("wide(6)", x.wide(6), -1);
        DUE.is("wide(MIN)", x.wide(Integer.MIN_VALUE), -1);
        DUE.is("cells stay", x.count(0), 4);
        DUE.is("refused by -1", x.count(5), 3);
        x.bar(0, 9);
        x.shape(1, 8);
        DUE.is("wide(5)", x.wide(5), 4);
        DUE.is("all 3 in the bar", x.count(3), 15);
        DUE.is("all 3 in the shape", x.heats(), 0);
        DUE.is("bar(4, 2)", x.bar(4, 2), 3);
        DUE.is("wide(5) again", x.wide(5), 5);
        DUE.is("all 3 again", x.bar(4, 3), 3);
        DUE.is("wide(3)", x.wide(3), 5);
        DUE.is("three cells", x.count(3), 9);
        DUE.is("bar(3, 3) is no cell", x.bar(3, 3), -1);
    }

    private static void barAndShape() {
        HotIron x = new HotIron();
        DUE.is("bar(0, 9)", x.bar(0, 9), 3);
        DUE.is("bar(0, 1)", x.bar(0, 1), 9);
        DUE.is("bar(3, 5)", x.bar(3, 5), 3);
        DUE.is("count(3)", x.count(3), 12);
        DUE.is("bar(0, 0)", x.bar(0, 0), -1);
        DUE.is("bar(0, 10)", x.bar(0, 10), -1);
        DUE.is("bar(-1, 3)", x.bar(-1, 3), -1);
        DUE.is("bar(4, 3)", x.bar(4, 3), -1);
        DUE.is("refused bars change nothing", x.bar(0, 1), 1);
        DUE.is("shape(0, 9)", x.shape(0, 9), 3);
        DUE.is("shape(0, 1)", x.shape(0, 1), 9);
        DUE.is("shape(0, 0)", x.shape(0, 0), -1);
        DUE.is("shape(0, 10)", x.shape(0, 10), -1);
        DUE.is("shape(-1, 3)", x.shape(-1, 3), -1);
        DUE.is("shape(4, 3)", x.shape(4, 3), -1);
        DUE.is("refused shapes change nothing", x.shape(0, 1), 1);
        DUE.is("the shape is not the bar", x.count(3), 12);
        DUE.is("refused", x.count(5), 8);
    }

    private static void tongs() {
        HotIron x = new HotIron();
        DUE.is("tongs(0)", x.tongs(0), -1);
        DUE.is("tongs(1)", x.tongs(1), -1);
        DUE.is("tongs(1024)", x.tongs(1024), -1);
        DUE.is("tongs(1023)", x.tongs(1023), -1);
        DUE.is("tongs(-2)", x.tongs(-2), -1);
        DUE.is("tongs(2)", x.tongs(2), 1022);
        DUE.is("tongs(512)", x.tongs(512), 2);
        DUE.is("tongs(8)", x.tongs(8), 512);
        DUE.is("refused", x.count(5), 5);
    }

    private static void terms() {
        HotIron x = new HotIron();
        int[] low = {1, 0, 0, 0, 0};
        int[] high = {4, 100, 60, 60, 50};
        int[] first = {3, 3, 5, 1, 20};
        for (int what = 0; what < 5; what++) {
            DUE.is("terms low", x.terms(what, low[what]), first[what]);
            DUE.is("terms high", x.terms(what, high[what]), low[what]);
            DUE.is("terms below", x.terms(what, low[what] - 1), -1);
            DUE.is("terms above", x.terms(what, high[what] + 1), -1);
            DUE.is("terms stay", x.terms(what, first[what]), high[what]);
        }
        DUE.is("terms(-1, 1)", x.terms(-1, 1), -1);
        DUE.is("terms(5, 1)", x.terms(5, 1), -1);
        DUE.is("refused", x.count(5), 12);
    }
}
