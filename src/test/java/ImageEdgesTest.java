import java.util.function.ToLongFunction;

/** The edges that Terms I (REFUSED), Terms V (IMAGES) and promises 27 to 30 name: image, back, count, status. */
public final class ImageEdgesTest {
    private static final Due DUE = new Due("ImageEdgesTest");
    private static final Edge EDGE = new Edge(DUE);
    private static final int MIN = Integer.MIN_VALUE;
    private static final int MAX = Integer.MAX_VALUE;

    public static void main(String[] args) {
        imageNumbers();
        backNumbers();
        backNotKept();
        backBringsAll();
        backLeaves();
        imagesStay();
        imageAnew();
        imagesApart();
        imagesOfGates();
        roomAgain();
        countNumbers();
        countOfWhatStands();
        refusalsAreNotKept();
        firstRefusal();
        neverByThree();
        statusOfEach();
        statusOfOthers();
        fiveHundredAndTwelveCalls();
        DUE.close();
    }

    private static void imageNumbers() {
        int[] cannot = {MIN, -2, -1, 2, 3, MAX};
        for (int k : cannot) {
            EDGE.refused(Look.busy(), "image(" + k + ")", x -> x.image(k), -1);
        }
        EDGE.granted(Look.busy(), "image(0)", x -> x.image(0), 0, "");
        EDGE.granted(Look.busy(), "image(1)", x -> x.image(1), 0, "");
        EDGE.granted(Look.full(), "image(1)", x -> x.image(1), 0, "");
    }

    private static void backNumbers() {
        int[] cannot = {MIN, -2, -1, 2, 3, MAX};
        for (int k : cannot) {
            EDGE.refused(Look.busy(), "back(" + k + ")", x -> x.back(k), -1);
            EDGE.refused(new HotIron(), "back(" + k + ") of none", x -> x.back(k), -1);
        }
        EDGE.granted(Look.busy(), "back(0)", x -> x.back(0), 0, "");
    }

    /** "-2 it was not kept". */
    private static void backNotKept() {
        EDGE.refused(Look.busy(), "back(1)", x -> x.back(1), -2);
        EDGE.refused(new HotIron(), "back(0)", x -> x.back(0), -2);
        EDGE.refused(new HotIron(), "back(1)", x -> x.back(1), -2);
        HotIron x = new HotIron();
        x.image(1);
        EDGE.refused(x, "back(0) with IMAGE 1", y -> y.back(0), -2);
        HotIron z = new HotIron();
        z.image(2);
        z.image(-1);
        DUE.is("a refused image() keeps none", z.back(0), -2);
        DUE.is("a refused image() keeps none", z.back(1), -2);
    }

    /** "all but the TAPE, FAULT and the latest run()"; "all that it keeps is as it was then". */
    private static void backBringsAll() {
        HotIron x = Look.busy();
        Look kept = new Look(x);
        changeAll(x);
        DUE.is("all are others", kept.changed(new Look(x)), "cells bar shape tongs terms recipes gate run tape fault");
        x.back(0);
        DUE.is("all but three as they were", kept.changed(new Look(x)), "run tape fault");
    }

    private static void changeAll(HotIron x) {
        x.run(1);
        x.wide(3);
        x.tongs(2);
        for (int what = 0; what < 5; what++) {
            x.terms(what, 1);
        }
        x.piece(3, -1);
        Due.write(x, "go 1");
        x.recipe();
        Due.write(x, "fire 1 ?");
        x.recipe();
        x.feed(1, 2, 3, 4, 5);
    }

    private static void backLeaves() {
        HotIron x = Look.busy();
        changeAll(x);
        EDGE.granted(x, "back(0)", y -> y.back(0), 0, "cells bar shape tongs terms recipes gate");
        HotIron y = new HotIron();
        Due.recipe(y, "fire 0");
        y.image(0);
        y.run(0);
        y.back(0);
        DUE.is("a run() behind the IMAGE stays", y.came(0), 1);
        HotIron z = new HotIron();
        z.image(0);
        Due.recipe(z, "fire 0");
        z.run(0);
        z.back(0);
        DUE.is("its RECIPE is gone", z.steps(0), -1);
        DUE.is("and can't be run", z.run(0), -2);
        DUE.is("but the latest run() stays", z.came(0), 1);
        DUE.is("its IRON, too", z.iron(0), 2);
    }

    /** "(IMAGES stay)": BACK to one leaves both, and what is done behind it changes neither. */
    private static void imagesStay() {
        HotIron x = new HotIron();
        x.bar(0, 1);
        x.image(0);
        x.bar(0, 2);
        x.image(1);
        int[][] ways = {{0, 1}, {0, 1}, {1, 2}, {0, 1}, {1, 2}, {1, 2}};
        for (int[] way : ways) {
            x.bar(0, 9);
            x.bar(1, 9);
            x.shape(1, 9);
            x.tongs(4);
            x.terms(4, 0);
            x.piece(9, -1);
            Due.recipe(x, "go 0");
            DUE.is("back(" + way[0] + ")", x.back(way[0]), 0);
            DUE.is("bar", x.bar(0, 8), way[1]);
            DUE.is("bar, shape, tongs, terms", x.bar(1, 3) + x.shape(1, 3) + x.tongs(1022) + x.terms(4, 20), 3 + 3 + 1022 + 20);
            DUE.is("pieces, recipes", x.count(2) + x.count(1), 0);
        }
    }

    private static void imageAnew() {
        HotIron x = new HotIron();
        x.bar(0, 1);
        x.image(0);
        x.bar(0, 2);
        x.image(0);
        x.bar(0, 3);
        x.image(2);
        x.back(0);
        DUE.is("the later one", x.bar(0, 3), 2);
    }

    private static void imagesApart() {
        HotIron x = new HotIron();
        x.image(0);
        x.wide(5);
        x.image(1);
        x.back(0);
        DUE.is("IMAGE 0", x.count(0), 4);
        x.back(1);
        DUE.is("IMAGE 1", x.count(0), 5);
        x.image(0);
        x.back(0);
        DUE.is("IMAGE 0 anew", x.count(0), 5);
    }

    /** Of each PIECE its MINUTES and its NEED are kept. */
    private static void imagesOfGates() {
        HotIron x = new HotIron();
        x.image(0);
        x.piece(10, -1);
        x.piece(5, 0);
        x.image(1);
        x.back(0);
        x.piece(20, -1);
        x.piece(6, -1);
        x.image(0);
        DUE.is("20 and 6 at once", x.soonest(2, -1) * 100 + x.soonest(2, 1), 2000);
        x.back(1);
        DUE.is("10, then 5", x.soonest(2, -1) * 100 + x.soonest(2, 1), 1510);
        x.back(0);
        DUE.is("20 and 6 at once again", x.soonest(2, -1) * 100 + x.soonest(2, 1), 2000);
    }

    /** BACK to fewer RECIPES and PIECES there is room again, and numbers come again. */
    private static void roomAgain() {
        HotIron x = new HotIron();
        x.image(0);
        for (int k = 0; k < 8; k++) {
            Due.recipe(x, "go 0;go 0");
            x.piece(1, -1);
        }
        x.image(1);
        DUE.is("no room", Due.recipe(x, "go 0"), -5);
        DUE.is("no room", x.piece(1, -1), -5);
        x.back(0);
        DUE.is("room", Due.recipe(x, "go 0"), 0);
        DUE.is("room", x.piece(2, -1), 0);
        DUE.is("the new one", x.steps(0), 1);
        DUE.is("the new one", x.soonest(1, -1), 2);
        x.back(1);
        DUE.is("the old ones", x.steps(0), 2);
        DUE.is("the old ones", x.soonest(1, -1), 8);
        DUE.is("no room again", Due.recipe(x, "go 0"), -5);
        DUE.is("no room again", x.piece(1, -1), -5);
    }

    /** "NONE for others". */
    private static void countNumbers() {
        int[] others = {MIN, -2, -1, 10, 11, MAX};
        for (int what : others) {
            EDGE.asked(Look.busy(), "count(" + what + ")", x -> x.count(what), -1);
        }
        // Of the busy one: five CELLS, two RECIPES, three PIECES, 22 IRON, seven bytes.
        int[] due = {5, 2, 3, 22, 7};
        for (int k = 0; k < 5; k++) {
            int what = k;
            EDGE.asked(Look.busy(), "count(" + what + ")", x -> x.count(what), due[what]);
        }
    }

    private static void countOfWhatStands() {
        HotIron x = new HotIron();
        x.wide(5);
        for (int cell = 0; cell < 5; cell++) {
            x.bar(cell, 9);
        }
        DUE.is("most IRON", x.count(3), 45);
        for (int cell = 0; cell < 5; cell++) {
            x.bar(cell, 1);
        }
        DUE.is("least of five", x.count(3), 5);
        x.wide(3);
        DUE.is("of three CELLS alone", x.count(3), 9);
        for (int cell = 0; cell < 3; cell++) {
            x.bar(cell, 1);
        }
        DUE.is("least", x.count(3), 3);
        DUE.is("full", Look.full().count(1) * 1000000 + Look.full().count(2) * 10000 + Look.full().count(4), 8080400);
    }

    /** "how many calls were REFUSED (IMAGES do not keep that)". */
    private static void refusalsAreNotKept() {
        HotIron x = new HotIron();
        x.image(0);
        x.wide(0);
        x.wide(9);
        x.run(0);
        x.recipe();
        x.row();
        x.recipe();
        DUE.is("ahead of BACK", Look.row(5, k -> x.count(5 + k)), "2 1 0 0 3 ");
        x.back(0);
        DUE.is("behind BACK", Look.row(5, k -> x.count(5 + k)), "2 1 0 0 3 ");
        x.image(0);
        x.bar(9, 9);
        x.back(0);
        DUE.is("behind BACK again", Look.row(5, k -> x.count(5 + k)), "3 1 0 0 3 ");
    }

    /** "The first of these in that order". */
    private static void firstRefusal() {
        EDGE.refused(new HotIron(), "back(2): -1 ahead of -2", x -> x.back(2), -1);
        HotIron full = Look.full();
        full.end(0);
        EDGE.refused(full, "recipe(): -5 ahead of -6", x -> x.recipe(), -5);
        EDGE.refused(Look.full(), "piece(0, 9): -1 ahead of -2 and -5", x -> x.piece(0, 9), -1);
        EDGE.refused(Look.full(), "piece(1, 9): -2 ahead of -5", x -> x.piece(1, 9), -2);
        EDGE.refused(Look.busy(), "bar(9, 0): once", x -> x.bar(9, 0), -1);
        EDGE.refused(Look.busy(), "terms(9, -9): once", x -> x.terms(9, -9), -1);
    }

    /** No call is REFUSED by -3, so none is counted there. */
    private static void neverByThree() {
        HotIron x = Look.full();
        x.wide(0);
        x.run(9);
        x.recipe();
        x.row();
        x.piece(1, -1);
        DUE.is("count(7)", x.count(7), 0);
        DUE.is("count(5), (6), (8), (9)", x.count(5) * 1000 + x.count(6) * 100 + x.count(8) * 10 + x.count(9), 1123);
    }

    private static void status(String call, ToLongFunction<HotIron> refused, int by, ToLongFunction<HotIron> granted) {
        HotIron x = Look.busy();
        x.wide(5);
        DUE.is(call + ": ahead of it", x.status(), 0);
        refused.applyAsLong(x);
        DUE.is(call + ": REFUSED", x.status(), by);
        DUE.is(call + ": still", x.status(), by);
        granted.applyAsLong(x);
        DUE.is(call + ": not REFUSED", x.status(), 0);
        x.image(9);
        granted.applyAsLong(x);
        DUE.is(call + ": not REFUSED behind another that was", x.status(), 0);
        refused.applyAsLong(x);
        x.image(1);
        DUE.is(call + ": gone by the next", x.status(), 0);
    }

    /** "What the latest call of wide, bar, shape, tongs, terms, row, recipe, run, piece, image, back was REFUSED by". */
    private static void statusOfEach() {
        status("wide", x -> x.wide(6), -1, x -> x.wide(5));
        status("bar", x -> x.bar(5, 1), -1, x -> x.bar(4, 1));
        status("shape", x -> x.shape(5, 1), -1, x -> x.shape(4, 1));
        status("tongs", x -> x.tongs(1), -1, x -> x.tongs(2));
        status("terms", x -> x.terms(0, 5), -1, x -> x.terms(0, 4));
        status("row", x -> x.end(0) + x.row(), -6, x -> x.feed(1, 2, 3, 4, 5) + x.end(3) + x.row());
        status("recipe", x -> x.end(0) + x.recipe(), -6, x -> x.end(0) + Due.write(x, "go 0") + x.recipe());
        status("run", x -> x.run(5), -2, x -> x.run(0));
        status("piece, minutes", x -> x.piece(0, -1), -1, x -> x.piece(1, -1));
        status("piece, need", x -> x.piece(1, 8), -2, x -> x.piece(1, 0));
        status("image", x -> x.image(2), -1, x -> x.image(0));
        status("back", x -> x.back(2), -1, x -> x.back(0));
        HotIron full = Look.full();
        full.piece(1, -1);
        DUE.is("piece without room", full.status(), -5);
        full.wide(5);
        full.recipe();
        DUE.is("recipe without room", full.status(), -5);
        full.wide(5);
        DUE.is("wide behind them", full.status(), 0);
    }

    private static void leaves(String call, ToLongFunction<HotIron> asked) {
        HotIron x = Look.busy();
        x.run(9);
        asked.applyAsLong(x);
        DUE.is(call + " leaves -2", x.status(), -2);
        x.row();
        x.row();
        asked.applyAsLong(x);
        DUE.is(call + " leaves -6", x.status(), -6);
        x.wide(5);
        asked.applyAsLong(x);
        DUE.is(call + " leaves 0", x.status(), 0);
    }

    /** No other call tells of itself by status(), whether it has an answer or NONE. */
    private static void statusOfOthers() {
        leaves("feed", x -> x.feed(1, 2, 3, 4, 5));
        leaves("end", x -> x.end(0) + x.end(-1) + x.end(999));
        leaves("fault", x -> x.fault());
        leaves("steps", x -> x.steps(0) + x.steps(99));
        leaves("came", x -> x.came(0) + x.came(99));
        leaves("iron", x -> x.iron(0) + x.iron(99));
        leaves("welds", x -> x.welds(0) + x.welds(99));
        leaves("heats", x -> x.heats());
        leaves("plan", x -> x.plan(0, 0) + x.plan(99, 99));
        leaves("reached", x -> x.reached(1) + x.reached(99));
        leaves("even", x -> x.even());
        leaves("change", x -> x.change(0, 0) + x.change(99, 99));
        leaves("made", x -> x.made(33333, 0, 0) + x.made(0, 0, 0));
        leaves("twelve", x -> x.twelve(0, 1, 2, 0) + x.twelve(99, 999, -9, 99));
        leaves("soonest", x -> x.soonest(1, 0) + x.soonest(99, 99));
        leaves("striker", x -> x.striker());
        leaves("count", x -> x.count(0) + x.count(99));
        leaves("status", x -> x.status());
    }

    /** "An object is used for at most 512 calls": the last of them is answered as the first; none behind it throws. */
    private static void fiveHundredAndTwelveCalls() {
        HotIron x = new HotIron();
        for (int i = 0; i < 510; i++) {
            x.wide(i % 2 == 0 ? 2 : 6);
        }
        DUE.is("call 511", x.count(5), 510);
        DUE.is("call 512", x.status(), -1);
        HotIron y = new HotIron();
        for (int i = 0; i < 508; i++) {
            y.bar(i % 4, 1 + i % 9);
        }
        DUE.is("calls 509 to 512", y.bar(0, 1) * 1000 + y.bar(1, 1) * 100 + y.bar(2, 1) * 10 + y.bar(3, 1),
                (1 + 504 % 9) * 1000 + (1 + 505 % 9) * 100 + (1 + 506 % 9) * 10 + 1 + 507 % 9);
        for (int i = 0; i < 5000; i++) {
            y.image(i % 2);
            y.feed(i, i, i, i, i);
            y.recipe();
            y.row();
            y.piece(1, -1);
            y.back(1 - i % 2);
        }
        DUE.is("an object that is used for longer answers still", y.count(99), -1);
    }
}
