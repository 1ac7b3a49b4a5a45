/** The edges that Terms I and promises 1 to 6 name: a new object, wide, bar, shape, tongs, terms. */
public final class BarEdgesTest {
    private static final Due DUE = new Due("BarEdgesTest");
    private static final Edge EDGE = new Edge(DUE);
    private static final int MIN = Integer.MIN_VALUE;
    private static final int MAX = Integer.MAX_VALUE;

    public static void main(String[] args) {
        newObject();
        wideCan();
        wideCannot();
        wideBringsThree();
        barCells();
        barIron();
        shapeCells();
        shapeIron();
        barAndShapeApart();
        tongsCan();
        tongsCannot();
        tongsHold();
        termsCan();
        termsCannot();
        termsCount();
        DUE.close();
    }

    /** "Four CELLS of 3 IRON each; no RECIPES, PIECES", and what the Terms say is so at first. */
    private static void newObject() {
        HotIron x = new HotIron();
        DUE.is("status() ahead of any", x.status(), 0);
        DUE.is("count(0) to count(9)", Look.row(10, what -> x.count(what)), "4 0 0 12 0 0 0 0 0 0 ");
        DUE.is("steps(0)", x.steps(0), -1);
        DUE.is("soonest(1, NONE)", x.soonest(1, -1), -1);
        DUE.is("back(0)", new HotIron().back(0), -2);
        DUE.is("back(1)", new HotIron().back(1), -2);
        Look look = new Look(new HotIron());
        DUE.is("bar", look.of("bar"), "3 3 3 3");
        DUE.is("shape", look.of("shape"), "3 3 3 3");
        DUE.is("tongs", look.of("tongs"), "1022");
        DUE.is("terms", look.of("terms"), "3 3 5 1 20");
        DUE.is("fault", look.of("fault"), "-1");
        DUE.is("run", look.of("run"), "-1000 ".repeat(14) + "-1 ".repeat(5) + "-1/-1");
    }

    /** "n 3 .. 5"; "how many there were". */
    private static void wideCan() {
        EDGE.granted(Look.busy(), "wide(3)", x -> x.wide(3), 5, "cells bar shape");
        EDGE.granted(Look.busy(), "wide(4)", x -> x.wide(4), 5, "cells bar shape");
        EDGE.granted(Look.busy(), "wide(5)", x -> x.wide(5), 5, "bar shape");
        HotIron x = new HotIron();
        DUE.is("wide(3) of the first four", x.wide(3), 4);
        DUE.is("wide(5) of three", x.wide(5), 3);
        DUE.is("wide(6) of five", x.wide(6), -1);
        DUE.is("wide(4) behind a refused one", x.wide(4), 5);
        DUE.is("wide(4) of four", x.wide(4), 4);
    }

    private static void wideCannot() {
        int[] numbers = {MIN, -5, -1, 0, 1, 2, 6, 7, 1 << 8 | 4, MAX};
        for (int n : numbers) {
            EDGE.refused(Look.busy(), "wide(" + n + ")", x -> x.wide(n), -1);
        }
    }

    /** "all have 3 IRON then, BAR and SHAPE": those that were there, and those that come or come again. */
    private static void wideBringsThree() {
        for (int from = 3; from <= 5; from++) {
            for (int to = 3; to <= 5; to++) {
                HotIron x = new HotIron();
                x.wide(from);
                for (int cell = 0; cell < from; cell++) {
                    x.bar(cell, 9);
                    x.shape(cell, 1);
                }
                x.wide(to);
                Look look = new Look(x);
                String due = "3 ".repeat(to).trim();
                DUE.is("bar from " + from + " to " + to, look.of("bar"), due);
                DUE.is("shape from " + from + " to " + to, look.of("shape"), due);
                DUE.is("count(3)", x.count(3), 3 * to);
                DUE.is("heats()", x.heats(), 0);
            }
        }
        HotIron x = new HotIron();
        x.wide(5);
        x.bar(4, 9);
        x.shape(4, 9);
        x.wide(3);
        x.wide(5);
        DUE.is("a CELL of the BAR that comes again", x.bar(4, 3), 3);
        DUE.is("a CELL of the SHAPE that comes again", x.shape(4, 3), 3);
    }

    /** "CELLS 0 .. n - 1", for each n. */
    private static void barCells() {
        for (int n = 3; n <= 5; n++) {
            int[] cells = {MIN, -1, n, n + 1, 5, 6, MAX};
            for (int cell : cells) {
                HotIron x = Look.busy();
                x.wide(n);
                EDGE.refused(x, "bar(" + cell + ", 4) of " + n, y -> y.bar(cell, 4), -1);
            }
            for (int c = 0; c < n; c++) {
                int cell = c;
                HotIron x = Look.busy();
                x.wide(n);
                EDGE.granted(x, "bar(" + cell + ", 4) of " + n, y -> y.bar(cell, 4), 3, "bar");
                DUE.is("count(3)", x.count(3), 3 * n + 1);
            }
        }
    }

    /** "IRON 1 .. 9"; "what it was". */
    private static void barIron() {
        int[] irons = {MIN, -1, 0, 10, 11, MAX};
        for (int iron : irons) {
            EDGE.refused(Look.busy(), "bar(0, " + iron + ")", x -> x.bar(0, iron), -1);
            EDGE.refused(Look.busy(), "bar(5, " + iron + ")", x -> x.bar(5, iron), -1);
        }
        for (int i = 1; i <= 9; i++) {
            int iron = i;
            HotIron x = new HotIron();
            EDGE.granted(x, "bar(0, " + iron + ")", y -> y.bar(0, iron), 3, iron == 3 ? "" : "bar");
            EDGE.granted(x, "bar(0, 3)", y -> y.bar(0, 3), iron, iron == 3 ? "" : "bar");
        }
    }

    private static void shapeCells() {
        for (int n = 3; n <= 5; n++) {
            int[] cells = {MIN, -1, n, n + 1, 5, 6, MAX};
            for (int cell : cells) {
                HotIron x = Look.busy();
                x.wide(n);
                EDGE.refused(x, "shape(" + cell + ", 4) of " + n, y -> y.shape(cell, 4), -1);
            }
            for (int c = 0; c < n; c++) {
                int cell = c;
                HotIron x = Look.busy();
                x.wide(n);
                EDGE.granted(x, "shape(" + cell + ", 4) of " + n, y -> y.shape(cell, 4), 3, "shape");
            }
        }
    }

    private static void shapeIron() {
        int[] irons = {MIN, -1, 0, 10, 11, MAX};
        for (int iron : irons) {
            EDGE.refused(Look.busy(), "shape(0, " + iron + ")", x -> x.shape(0, iron), -1);
            EDGE.refused(Look.busy(), "shape(5, " + iron + ")", x -> x.shape(5, iron), -1);
        }
        for (int i = 1; i <= 9; i++) {
            int iron = i;
            HotIron x = new HotIron();
            EDGE.granted(x, "shape(0, " + iron + ")", y -> y.shape(0, iron), 3, iron == 3 ? "" : "shape");
            EDGE.granted(x, "shape(0, 3)", y -> y.shape(0, 3), iron, iron == 3 ? "" : "shape");
        }
    }

    /** "A SHAPE is another row of IRON". */
    private static void barAndShapeApart() {
        HotIron x = new HotIron();
        x.bar(2, 9);
        x.shape(2, 1);
        x.shape(1, 8);
        DUE.is("the BAR alone is counted", x.count(3), 18);
        DUE.is("bar", new Look(x).of("bar"), "3 3 9 3");
        DUE.is("shape", new Look(x).of("shape"), "3 8 1 3");
    }

    /** "bits 1 .. 9"; "which they held". */
    private static void tongsCan() {
        int held = 0b1001010110;
        for (int number = 1; number <= 9; number++) {
            int only = 1 << number;
            EDGE.granted(Look.busy(), "tongs(" + only + ")", x -> x.tongs(only), held, "tongs");
            EDGE.granted(Look.busy(), "tongs(" + (1022 - only) + ")", x -> x.tongs(1022 - only), held, "tongs");
        }
        EDGE.granted(Look.busy(), "tongs(1022)", x -> x.tongs(1022), held, "tongs");
        EDGE.granted(Look.busy(), "tongs() as they are", x -> x.tongs(held), held, "");
    }

    /** "-1 (none, other bits)". */
    private static void tongsCannot() {
        int[] numbers = {0, 1, 3, 1023, 1024, 1025, 1026, 2046, 2048, -1, -2, MIN, MIN | 2, MAX, 1 << 30, 1 << 16 | 8};
        for (int held : numbers) {
            EDGE.refused(Look.busy(), "tongs(" + held + ")", x -> x.tongs(held), -1);
        }
    }

    /** "TONGS hold CELLS with told numbers of IRON (bits 1 .. 9; all at first)": of CELL 3, the only cold one, each number. */
    private static void tongsHold() {
        for (int iron = 1; iron <= 9; iron++) {
            HotIron x = new HotIron();
            int other = iron == 5 ? 6 : 5;
            Due.bar(x, other, other, other, iron);
            Due.recipe(x, "fire 1");
            x.run(0);
            DUE.is("all at first hold " + iron, x.came(6), -1);
            x.tongs(1 << iron);
            x.run(0);
            DUE.is("only " + iron + " holds " + iron, x.came(6), -1);
            x.tongs(1022 - (1 << iron));
            x.run(0);
            DUE.is("all others do not hold " + iron, x.came(6), 0);
        }
    }

    private static final int[] LOW = {1, 0, 0, 0, 0};
    private static final int[] HIGH = {4, 100, 60, 60, 50};
    private static final int[] BUSY = {2, 50, 30, 7, 10};

    /** "TERMS: 0 BLOWS 1 .. 4 (3 at first), 1 COAL 0 .. 100 (3), .."; "what it was". */
    private static void termsCan() {
        for (int k = 0; k < 5; k++) {
            int what = k;
            int[] values = {LOW[k], LOW[k] + 1, HIGH[k] - 1, HIGH[k]};
            for (int value : values) {
                String call = "terms(" + what + ", " + value + ")";
                EDGE.granted(Look.busy(), call, x -> x.terms(what, value), BUSY[what], value == BUSY[what] ? "" : "terms");
            }
        }
    }

    private static void termsCannot() {
        for (int k = 0; k < 5; k++) {
            int what = k;
            int[] values = {MIN, LOW[k] - 1, HIGH[k] + 1, MAX};
            for (int value : values) {
                EDGE.refused(Look.busy(), "terms(" + what + ", " + value + ")", x -> x.terms(what, value), -1);
            }
        }
        int[] whats = {MIN, -1, 5, 6, MAX};
        for (int what : whats) {
            EDGE.refused(Look.busy(), "terms(" + what + ", 2)", x -> x.terms(what, 2), -1);
            EDGE.refused(Look.busy(), "terms(" + what + ", -1)", x -> x.terms(what, -1), -1);
        }
    }

    /** Each TERM's least and most in a RUN: BLOWS, COAL, HEATING, STRIKING, SAND. */
    private static void termsCount() {
        int[][] low = {{1, 0, 0, 0, 0}, {1, 0, 0, 30}};
        int[][] high = {{4, 100, 60, 60, 50}, {4, 100, 60 + 4 * 60, 100}};
        int[][] first = {{3, 3, 5, 1, 20}, {3, 3, 5 + 3, 70}};
        for (int[][] pair : new int[][][] {low, high, first}) {
            HotIron x = new HotIron();
            for (int what = 0; what < 5; what++) {
                x.terms(what, pair[0][what]);
            }
            Due.recipe(x, "fire 1;weld 0;punch 1;punch 2;punch 2;punch 2");
            x.run(0);
            DUE.is("BLOWS", x.came(1), pair[1][0]);
            DUE.is("COAL", x.came(12), pair[1][1]);
            DUE.is("minutes", x.came(13), pair[1][2]);
            DUE.is("WELDS", x.welds(0) * (100 / x.welds(1)), pair[1][3]);
        }
    }
}
