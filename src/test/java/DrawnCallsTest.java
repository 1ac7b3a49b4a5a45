import java.util.Random;

/** Calls of all kinds one behind the other on one object, drawn from fixed seeds, each with what SmithBook says is due. */
public final class DrawnCallsTest {
    private static final Due DUE = new Due("DrawnCallsTest");
    /** An object is used for 512 calls; the latest that is drawn may be some twenty calls more. */
    private static final int CALLS = 480;
    private static final int[] ODD = {Integer.MIN_VALUE, Integer.MAX_VALUE, -1000, -2, -1, 0, 9, 10, 15, 16, 31, 32, 100, 101, 200,
        201, 400, 401, 1022, 1023, 1024, 1000000, 1000001};

    private final Random random;
    private final HotIron x = new HotIron();
    private final SmithBook book = new SmithBook();
    private final String run;
    private int calls = 0;

    private DrawnCallsTest(int seed) {
        random = new Random(seed);
        run = "run " + seed + ", ";
    }

    public static void main(String[] args) {
        int from = args.length > 0 ? Integer.parseInt(args[0]) : 0;
        int to = args.length > 1 ? Integer.parseInt(args[1]) : 60;
        for (int seed = from; seed < to; seed++) {
            DrawnCallsTest test = new DrawnCallsTest(seed);
            // Of three CELLS the plain Smith tells PLANS soon.
            test.wide(seed % 4 == 0 ? 4 : 3);
            while (test.calls < CALLS) {
                test.call();
            }
        }
        DUE.close();
    }

    private void due(String call, long got, long want) {
        calls++;
        DUE.is(run + call, got, want);
    }

    /** Mostly a number from low to high, now and then one just outside or far away. */
    private int near(int low, int high) {
        int sort = random.nextInt(20);
        if (sort == 0) {
            return ODD[random.nextInt(ODD.length)];
        }
        if (sort == 1) {
            return random.nextBoolean() ? low - 1 : high + 1;
        }
        return low + random.nextInt(high - low + 1);
    }

    private void call() {
        switch (random.nextInt(7)) {
            case 0:
                setCall();
                break;
            case 1:
                tapeCall();
                break;
            case 2:
                runCall();
                break;
            case 3:
                planCall();
                break;
            case 4:
                recipeCall();
                break;
            case 5:
                gateCall();
                break;
            default:
                imageCall();
                break;
        }
        if (random.nextInt(4) == 0) {
            due("status()", x.status(), book.status());
        }
    }

    private void setCall() {
        int cell = near(0, book.smith.cells - 1);
        int iron = near(1, random.nextInt(3) == 0 ? 9 : 4);
        String told = "(" + cell + ", " + iron + ")";
        switch (random.nextInt(8)) {
            case 0:
                wide(random.nextInt(3) == 0 ? near(3, 5) : 3);
                break;
            case 1:
            case 2:
                due("bar" + told, x.bar(cell, iron), book.bar(cell, iron));
                break;
            case 3:
            case 4:
                due("shape" + told, x.shape(cell, iron), book.shape(cell, iron));
                break;
            case 5:
                int numbers = random.nextInt(3) == 0 ? near(0, 1023) : 1022;
                due("tongs(" + numbers + ")", x.tongs(numbers), book.tongs(numbers));
                break;
            default:
                int what = near(0, 4);
                int value = near(0, what == 0 ? 4 : 60);
                due("terms(" + what + ", " + value + ")", x.terms(what, value), book.terms(what, value));
        }
    }

    private void wide(int n) {
        due("wide(" + n + ")", x.wide(n), book.wide(n));
    }

    private void tapeCall() {
        switch (random.nextInt(6)) {
            case 0:
                int[] five = new int[5];
                for (int i = 0; i < 5; i++) {
                    five[i] = near(1, 9);
                }
                int bytes = near(0, 20);
                feed(five);
                due("end(" + bytes + ")", x.end(bytes), book.end(bytes));
                due("row()", x.row(), book.row());
                break;
            case 1:
                due("row()", x.row(), book.row());
                break;
            case 2:
                due("fault()", x.fault(), book.fault());
                break;
            case 3:
                int recipe = near(0, 8);
                due("steps(" + recipe + ")", x.steps(recipe), book.steps(recipe));
                break;
            default:
                String text = Texts.text(random, book.smith.cells);
                feedText(random.nextInt(5) > 0 ? text : text.substring(random.nextInt(text.length())));
                if (random.nextInt(8) > 0) {
                    due("recipe() of " + text, x.recipe(), book.recipe());
                    due("fault() of " + text, x.fault(), book.fault());
                }
        }
    }

    private void feed(int[] five) {
        due("feed", x.feed(five[0], five[1], five[2], five[3], five[4]), book.feed(five));
    }

    private void feedText(String text) {
        int length = book.count(4) + text.length();
        for (int i = 0; i < text.length(); i += 20) {
            int[] five = new int[5];
            for (int k = 0; k < 20; k++) {
                five[k / 4] = five[k / 4] << 8 | (i + k < text.length() ? text.charAt(i + k) : ' ');
            }
            feed(five);
        }
        due("end(" + length + ")", x.end(length), book.end(length));
    }

    private void runCall() {
        int recipe = near(0, Math.max(0, book.smith.recipes.size() - 1));
        if (random.nextInt(3) == 0) {
            due("run(" + recipe + ")", x.run(recipe), book.run(recipe));
        }
        int what = near(0, 13);
        due("came(" + what + ")", x.came(what), book.came(what));
        int cell = near(0, 4);
        due("iron(" + cell + ")", x.iron(cell), book.iron(cell));
        int part = near(0, 1);
        due("welds(" + part + ")", x.welds(part), book.welds(part));
    }

    private void planCall() {
        // The plain Smith needs minutes for five CELLS.
        if (book.smith.cells == 5) {
            int heats = near(0, 1) % 7;
            int asked = heats > 1 ? 7 : heats;
            due("reached(" + asked + ")", x.reached(asked), book.reached(asked));
            return;
        }
        switch (random.nextInt(10)) {
            case 0:
                due("even()", x.even(), book.smith.even());
                break;
            case 1:
                due("striker()", x.striker(), book.smith.striker());
                break;
            case 2:
                int heats = near(0, 6);
                due("reached(" + heats + ")", x.reached(heats), book.reached(heats));
                break;
            case 3:
            case 4:
                due("heats()", x.heats(), book.smith.heats(book.smith.bar, book.smith.terms[0]));
                break;
            default:
                int i = near(0, 2);
                int cell = near(-1, book.smith.cells - 1);
                due("plan(" + i + ", " + cell + ")", x.plan(i, cell), book.plan(i, cell));
        }
    }

    private void recipeCall() {
        int recipe = near(0, Math.max(0, book.smith.recipes.size() - 1));
        int what = near(0, 2);
        switch (random.nextInt(3)) {
            case 0:
                int i = near(0, 4);
                due("change(" + recipe + ", " + i + ")", x.change(recipe, i), book.change(recipe, i));
                break;
            case 1:
                madeCall(recipe);
                break;
            default:
                int slip = near(0, 100);
                int seed = near(0, 1000000);
                due("twelve(" + recipe + ", " + slip + ", " + seed + ", " + what + ")", x.twelve(recipe, slip, seed, what),
                        book.twelve(recipe, slip, seed, what));
        }
    }

    /** Mostly a BAR that a RECIPE makes. */
    private void madeCall(int recipe) {
        int iron = near(111, 99999);
        int holes = near(0, 7);
        int folds = near(0, 7);
        if (recipe >= 0 && recipe < book.smith.recipes.size() && random.nextInt(4) > 0) {
            Smith.Round round = book.smith.run(recipe);
            iron = Integer.parseInt(round.row());
            holes = round.bits("holes");
            folds = random.nextInt(4) > 0 ? round.bits("folds") : folds;
        }
        due("made(" + iron + ", " + holes + ", " + folds + ")", x.made(iron, holes, folds), book.made(iron, holes, folds));
    }

    private void gateCall() {
        if (random.nextInt(4) == 0) {
            int minutes = near(1, random.nextBoolean() ? 200 : 6);
            int need = near(-1, book.smith.pieces.size() - 1);
            due("piece(" + minutes + ", " + need + ")", x.piece(minutes, need), book.piece(minutes, need));
            return;
        }
        int fires = near(1, 3);
        int what = near(-1, Math.max(-1, book.smith.pieces.size() - 1));
        due("soonest(" + fires + ", " + what + ")", x.soonest(fires, what), book.soonest(fires, what));
    }

    private void imageCall() {
        int k = near(0, 1);
        switch (random.nextInt(4)) {
            case 0:
                due("image(" + k + ")", x.image(k), book.image(k));
                break;
            case 1:
                due("back(" + k + ")", x.back(k), book.back(k));
                break;
            default:
                int what = near(0, 9);
                due("count(" + what + ")", x.count(what), book.count(what));
        }
    }
}
