/** Promises 27 to 30: image, back, count, status. */
public final class ImageTest {
    private static final Due DUE = new Due("ImageTest");

    public static void main(String[] args) {
        refusals();
        all();
        whatIsNotKept();
        status();
        counts();
        DUE.close();
    }

    private static void refusals() {
        HotIron x = new HotIron();
        DUE.is("image(-1)", x.image(-1), -1);
        DUE.is("image(2)", x.image(2), -1);
        DUE.is("back(-1)", x.back(-1), -1);
        DUE.is("back(2)", x.back(2), -1);
        DUE.is("back(0) of none", x.back(0), -2);
        DUE.is("image(1)", x.image(1), 0);
        DUE.is("back(0) of none", x.back(0), -2);
        DUE.is("back(1)", x.back(1), 0);
        DUE.is("refused by -1", x.count(5), 4);
        DUE.is("refused by -2", x.count(6), 2);
    }

    private static void all() {
        HotIron x = new HotIron();
        Due.bar(x, 4, 4, 4);
        Due.shape(x, 4, 3, 4);
        x.tongs(1 << 4);
        for (int what = 0; what < 5; what++) {
            x.terms(what, 2);
        }
        Due.recipe(x, "fire 0");
        x.piece(17, -1);
        x.image(0);
        x.wide(5);
        x.tongs(1 << 3);
        for (int what = 0; what < 5; what++) {
            x.terms(what, 4);
        }
        Due.recipe(x, "fire 1;fire 2");
        x.piece(18, 0);
        x.image(1);
        DUE.is("back(0)", x.back(0), 0);
        DUE.is("cells", x.count(0), 3);
        DUE.is("recipes", x.count(1), 1);
        DUE.is("pieces", x.count(2), 1);
        DUE.is("iron", x.count(3), 12);
        DUE.is("soonest", x.soonest(1, -1), 17);
        DUE.is("no second piece", x.soonest(1, 1), -1);
        DUE.is("heats", x.heats(), 1);
        DUE.is("steps", x.steps(1), -1);
        DUE.is("shape", x.shape(1, 9), 3);
        DUE.is("tongs", x.tongs(1022), 1 << 4);
        for (int what = 0; what < 5; what++) {
            DUE.is("terms", x.terms(what, 1), 2);
        }
        DUE.is("a new recipe takes its number", Due.recipe(x, "go 1;go 2;go 3"), 1);
        DUE.is("a new piece takes its number", x.piece(1, -1), 1);
        DUE.is("back(1)", x.back(1), 0);
        DUE.is("cells", x.count(0), 5);
        DUE.is("steps", x.steps(1), 2);
        DUE.is("soonest", x.soonest(1, -1), 35);
        DUE.is("soonest", x.soonest(2, 1), 17);
        DUE.is("tongs", x.tongs(1022), 1 << 3);
        DUE.is("terms", x.terms(4, 1), 4);
        DUE.is("back(0) once more", x.back(0), 0);
        DUE.is("images stay as they were kept", x.shape(1, 9), 3);
        DUE.is("images stay as they were kept", x.tongs(2), 1 << 4);
        x.image(0);
        x.tongs(4);
        x.back(0);
        DUE.is("an image kept anew", x.tongs(2), 2);
    }

    private static void whatIsNotKept() {
        HotIron x = new HotIron();
        Due.recipe(x, "fire 0");
        x.run(0);
        Due.write(x, "fire 1");
        x.image(0);
        Due.write(x, ";fire 2");
        x.bar(0, 10);
        x.back(0);
        DUE.is("the tape stays", x.count(4), 13);
        DUE.is("refusals stay", x.count(5), 1);
        DUE.is("recipe", x.recipe(), 1);
        x.run(1);
        DUE.is("fault", Due.fault(x, "fire 1 ?"), 7);
        x.back(0);
        DUE.is("the fault stays", x.fault(), 7);
        DUE.is("the latest run stays", x.came(0), 2);
        DUE.is("refusals stay", x.count(9), 1);
    }

    private static void status() {
        HotIron x = new HotIron();
        DUE.is("ahead of any", x.status(), 0);
        x.wide(9);
        DUE.is("wide", x.status(), -1);
        x.wide(4);
        DUE.is("wide", x.status(), 0);
        x.bar(0, 0);
        DUE.is("bar", x.status(), -1);
        x.shape(0, 1);
        DUE.is("shape", x.status(), 0);
        x.shape(0, 0);
        DUE.is("shape", x.status(), -1);
        x.bar(0, 1);
        DUE.is("bar", x.status(), 0);
        x.tongs(0);
        DUE.is("tongs", x.status(), -1);
        x.terms(0, 1);
        DUE.is("terms", x.status(), 0);
        x.terms(0, 0);
        DUE.is("terms", x.status(), -1);
        x.tongs(2);
        DUE.is("tongs", x.status(), 0);
        x.row();
        DUE.is("row", x.status(), -6);
        x.image(0);
        DUE.is("image", x.status(), 0);
        x.image(2);
        DUE.is("image", x.status(), -1);
        x.back(0);
        DUE.is("back", x.status(), 0);
        x.back(1);
        DUE.is("back", x.status(), -2);
        Due.recipe(x, "fire 0");
        DUE.is("recipe", x.status(), 0);
        x.recipe();
        DUE.is("recipe", x.status(), -6);
        x.run(0);
        DUE.is("run", x.status(), 0);
        x.run(1);
        DUE.is("run", x.status(), -2);
        x.piece(1, -1);
        DUE.is("piece", x.status(), 0);
        x.piece(1, 4);
        DUE.is("piece", x.status(), -2);
        othersLeaveIt(x);
        DUE.is("others leave it", x.status(), -2);
        x.feed(1, 1, 1, 1, 1);
        x.end(4);
        x.row();
        DUE.is("row", x.status(), 0);
        othersLeaveIt(x);
        DUE.is("others leave it", x.status(), 0);
    }

    private static void othersLeaveIt(HotIron x) {
        x.feed(1, 2, 3, 4, 5);
        x.end(0);
        x.end(-1);
        x.end(99);
        x.fault();
        x.steps(0);
        x.steps(-1);
        x.came(99);
        x.iron(99);
        x.welds(99);
        x.heats();
        x.plan(99, 99);
        x.reached(99);
        x.even();
        x.change(99, 99);
        x.made(0, 0, 0);
        x.twelve(99, 99, 99, 99);
        x.soonest(99, 99);
        x.striker();
        x.count(99);
    }

    private static void counts() {
        HotIron x = new HotIron();
        othersLeaveIt(x);
        for (int what = 5; what <= 9; what++) {
            DUE.is("what answers NONE is not refused", x.count(what), 0);
        }
        DUE.is("count(-1)", x.count(-1), -1);
        DUE.is("count(10)", x.count(10), -1);
        DUE.is("count(MIN)", x.count(Integer.MIN_VALUE), -1);
        DUE.is("count(MAX)", x.count(Integer.MAX_VALUE), -1);
        for (int i = 0; i < 8; i++) {
            x.piece(1, -1);
        }
        x.piece(1, -1);
        x.run(0);
        x.run(0);
        for (int i = 0; i < 3; i++) {
            x.wide(0);
        }
        for (int i = 0; i < 4; i++) {
            x.recipe();
        }
        DUE.is("count(5)", x.count(5), 3);
        DUE.is("count(6)", x.count(6), 2);
        DUE.is("count(7)", x.count(7), 0);
        DUE.is("count(8)", x.count(8), 1);
        DUE.is("count(9)", x.count(9), 4);
    }
}
