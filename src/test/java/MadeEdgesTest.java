import java.util.Arrays;

/** The edges that Terms IV (CHANGE PLACES, MADE, TWELVE) and promises 21 to 23 name: change, made, twelve. */
public final class MadeEdgesTest {
    private static final Due DUE = new Due("MadeEdgesTest");
    private static final Edge EDGE = new Edge(DUE);
    private static final int MIN = Integer.MIN_VALUE;
    private static final int MAX = Integer.MAX_VALUE;

    public static void main(String[] args) {
        changeNumbers();
        changeOfSteps();
        changeByOneThingAlone();
        changeByNothingElse();
        changeAndGo();
        madeNumbers();
        madeBits();
        madeRecipes();
        madeNotDropped();
        twelveNumbers();
        twelveEnds();
        twelveByDraws();
        twelveAtTheWrap();
        twelveDrawsAheadOfMovesAlone();
        twelveSlipUsesTheBlow();
        twelveApart();
        DUE.close();
    }

    private static HotIron with(int blows, String text, int... bar) {
        HotIron x = new HotIron();
        Due.bar(x, bar);
        x.terms(0, blows);
        DUE.is("recipe() of " + text, Due.recipe(x, text), 0);
        return x;
    }

    /** "NONE": no such RECIPE, no such STEP or none behind it. */
    private static void changeNumbers() {
        int[] recipes = {MIN, -1, 2, 7, 8, MAX};
        for (int recipe : recipes) {
            EDGE.asked(Look.busy(), "change(" + recipe + ", 0)", x -> x.change(recipe, 0), -1);
        }
        int[] steps = {MIN, -2, -1, 2, 3, 15, 16, MAX};
        for (int i : steps) {
            EDGE.asked(Look.busy(), "change(0, " + i + ")", x -> x.change(0, i), -1);
        }
        EDGE.asked(Look.busy(), "change(0, 0)", x -> x.change(0, 0), 0);
        EDGE.asked(Look.busy(), "change(1, 2)", x -> x.change(1, 2) < 0 ? -1 : 0, 0);
        EDGE.asked(new HotIron(), "change(0, 0) without RECIPES", x -> x.change(0, 0), -1);
    }

    private static void changeOfSteps() {
        HotIron x = with(3, "fire 0", 3, 3, 3, 3);
        DUE.is("one STEP has none behind it", x.change(0, 0), -1);
        x = with(3, "fire 0;fire 0", 3, 3, 3, 3);
        DUE.is("two", x.change(0, 0), 1);
        DUE.is("two, from the last", x.change(0, 1), -1);
        x = with(3, "go 1" + ";fire 9".repeat(15), 3, 3, 3, 3);
        DUE.is("sixteen", x.change(0, 14), 1);
        DUE.is("sixteen, from the last", x.change(0, 15), -1);
    }

    private static void change(String why, HotIron x, int i, int due) {
        DUE.is(why, x.change(0, i), due);
    }

    /** "ends with the same IRON, SHOULDERS, HOLES, WELDS, FOLDS, CRACKS": each of these alone is another one. */
    private static void changeByOneThingAlone() {
        change("IRON", with(3, "fire 1;strike 2 to 3;strike 1 to 2", 5, 9, 9, 5), 1, 0);
        change("SHOULDERS", with(1, "shoulder 0;shoulder 1;fire 1;shoulder 0;shoulder 1", 3, 3, 3, 3), 3, 0);
        change("HOLES", with(1, "punch 0;punch 2;fire 1;punch 0;fire 1;punch 2;fire 1;punch 0;punch 2", 1, 3, 1, 3), 7, 0);
        change("WELDS", with(1, "weld 0;weld 1;fire 1;weld 0;weld 1", 3, 3, 3, 3), 3, 0);
        change("FOLDS", with(3, "fire 1;strike 1 to 2;strike 2 to 1", 3, 3, 3, 3), 1, 0);
        change("CRACKS", with(1, "fire 1;punch 0;punch 2", 3, 3, 3, 3), 1, 0);
        change("IRON of the last CELL", with(1, "fire 4;strike 3 to 4;strike 4 to 3", 5, 5, 5, 5, 5), 1, 0);
        change("the same", with(2, "fire 1;punch 0;punch 2", 3, 3, 3, 3), 1, 1);
        change("the same BLOW twice", with(2, "fire 1;strike 1 to 2;strike 1 to 2", 3, 3, 3, 3), 1, 1);
    }

    /** HEATS, BLOWS, DUDS, COLD ones, SCALE, whether it is DROPPED, and what it COSTS may be others. */
    private static void changeByNothingElse() {
        change("DUDS", with(3, "go 2;fire 9;fire 9", 3, 3, 3, 3), 0, 1);
        change("DROPPED", with(3, "go 2;fire 1;go 15", 3, 3, 3), 0, 1);
        change("HEATS", with(3, "go 2;fire 0;go 15", 1, 3, 3, 3), 0, 1);
        change("COLD ones", with(3, "punch 0;go 3;punch 0;fire 9", 3, 3, 3, 3), 1, 1);
        change("BLOWS and a PUNCH that is no HOLE", with(3, "fire 0;go 3;punch 0;fire 9", 3, 3, 3, 3), 1, 1);
    }

    /** "(a "go" names numbers as before)". */
    private static void changeAndGo() {
        // Behind the exchange STEP 0 is fire 0 and STEP 1 is go 2.
        change("go over a HEAT", with(3, "go 2;fire 0;fire 3", 3, 3, 3, 3), 0, 0);
        change("go to the next, then to itself", with(3, "go 1;fire 0", 3, 3, 3, 3), 0, 1);
        HotIron x = with(3, "go 2;fire 0;fire 0;go 15", 1, 3, 3, 3);
        change("the RUN goes to what stands there", x, 1, 1);
        change("go and what it goes to", with(3, "fire 9;go 3;fire 0;fire 3", 3, 3, 3, 3), 2, 0);
        HotIron dropped = with(3, "fire 0;fire 1", 3, 3, 3);
        // Exchanged it is DROPPED at once, and CELL 0 has its IRON still.
        change("DROPPED ahead of the other", dropped, 0, 0);
    }

    /** "its IRON digit by digit, CELL 0 first, n digits 1 .. 9"; "NONE". */
    private static void madeNumbers() {
        int[][] none = {
            {MIN, -333, -1, 0, 3, 33, 99, 100, 101, 110, 303, 330, 1000, 3333, 10333, MAX},
            {MIN, -3333, -1, 0, 333, 999, 1000, 1110, 1101, 1011, 3033, 3330, 10000, 33333, MAX},
            {MIN, -33333, -1, 0, 3333, 9999, 10000, 11110, 11101, 11011, 10111, 33330, 100000, 333333, MAX},
        };
        int[][] can = {{111, 333, 999, 199, 991}, {1111, 3333, 9999, 1999}, {11111, 33333, 99999, 99991}};
        for (int n = 3; n <= 5; n++) {
            for (int iron : none[n - 3]) {
                HotIron x = Look.busy();
                x.wide(n);
                EDGE.asked(x, "made(" + iron + ", 0, 0) of " + n, y -> y.made(iron, 0, 0), -1);
            }
            HotIron x = new HotIron();
            x.wide(n);
            Due.recipe(x, "go 1");
            for (int iron : can[n - 3]) {
                boolean asItIs = ("" + iron).matches("3+");
                DUE.is("made(" + iron + ", 0, 0) of " + n, x.made(iron, 0, 0), asItIs ? 1 : 0);
            }
        }
        HotIron x = with(3, "go 1", 1, 2, 3, 4, 5);
        DUE.is("CELL 0 first", x.made(12345, 0, 0), 1);
        DUE.is("not CELL 0 last", x.made(54321, 0, 0), 0);
    }

    /** HOLES and FOLDS are bits of CELLS: all of them, and none where no CELL is. */
    private static void madeBits() {
        for (int n = 3; n <= 5; n++) {
            int all = (1 << n) - 1;
            int iron = n == 3 ? 333 : n == 4 ? 3333 : 33333;
            int[] none = {MIN, -1, all + 1, all + 2, 2 * all + 1, MAX};
            for (int bits : none) {
                HotIron x = Look.busy();
                x.wide(n);
                EDGE.asked(x, "made(" + iron + ", " + bits + ", 0)", y -> y.made(iron, bits, 0), -1);
                EDGE.asked(x, "made(" + iron + ", 0, " + bits + ")", y -> y.made(iron, 0, bits), -1);
            }
            HotIron x = new HotIron();
            x.wide(n);
            DUE.is("all HOLES", x.made(iron, all, 0), 0);
            DUE.is("all FOLDS", x.made(iron, 0, all), 0);
        }
        HotIron x = with(4, "fire 3;strike 2 to 3;punch 3;punch 3", 1, 1, 2, 5);
        // 1 1 2 4, then 1 1 1 5 with a FOLD, then 1 1 1 4 with a HOLE, both of the last CELL.
        DUE.is("with both", x.made(1114, 8, 8), 1);
        DUE.is("without the HOLE", x.made(1114, 0, 8), 0);
        DUE.is("without the FOLD", x.made(1114, 8, 0), 0);
        DUE.is("with another HOLE", x.made(1114, 12, 8), 0);
        DUE.is("with other IRON", x.made(1115, 8, 8), 0);
    }

    /** "RECIPES as bits": none, one, all eight. */
    private static void madeRecipes() {
        EDGE.asked(new HotIron(), "made(3333, 0, 0) without RECIPES", x -> x.made(3333, 0, 0), 0);
        HotIron x = new HotIron();
        for (int k = 0; k < 8; k++) {
            Due.recipe(x, k % 3 == 0 ? "fire 3" : "fire 0");
        }
        DUE.is("1, 2, 4, 5, 7", x.made(2333, 0, 0), 0b10110110);
        DUE.is("0, 3, 6", x.made(3332, 0, 0), 0b01001001);
        x = new HotIron();
        for (int k = 0; k < 8; k++) {
            Due.recipe(x, "go 1");
        }
        DUE.is("all eight", x.made(3333, 0, 0), 255);
        x.bar(0, 4);
        DUE.is("from the BAR as it stands", x.made(3333, 0, 0), 0);
        DUE.is("from the BAR as it stands", x.made(4333, 0, 0), 255);
    }

    /** "and is not DROPPED": though its IRON is the same. */
    private static void madeNotDropped() {
        HotIron x = with(3, "fire 1", 3, 3, 3);
        DUE.is("DROPPED at the first STEP", x.made(333, 0, 0), 0);
        x = with(3, "fire 0;fire 1", 3, 3, 3);
        DUE.is("DROPPED at the last STEP", x.made(233, 0, 0), 0);
        x = with(3, "fire 0;fire 1 if 1=2", 3, 3, 3);
        DUE.is("passed over", x.made(233, 0, 0), 1);
    }

    /** "a SLIP 0 .. 100"; "the SEED (0 .. 1,000,000)"; what 0 .. 2; "NONE". */
    private static void twelveNumbers() {
        int[] recipes = {MIN, -1, 2, 7, 8, MAX};
        for (int recipe : recipes) {
            EDGE.asked(Look.busy(), "twelve(" + recipe + ", 0, 0, 0)", x -> x.twelve(recipe, 0, 0, 0), -1);
        }
        int[] slips = {MIN, -1, 101, MAX};
        for (int slip : slips) {
            EDGE.asked(Look.busy(), "twelve(0, " + slip + ", 0, 0)", x -> x.twelve(0, slip, 0, 0), -1);
        }
        int[] seeds = {MIN, -1, 1000001, 1000003, MAX};
        for (int seed : seeds) {
            EDGE.asked(Look.busy(), "twelve(0, 0, " + seed + ", 0)", x -> x.twelve(0, 0, seed, 0), -1);
        }
        int[] whats = {MIN, -1, 3, 4, MAX};
        for (int what : whats) {
            EDGE.asked(Look.busy(), "twelve(0, 0, 0, " + what + ")", x -> x.twelve(0, 0, 0, what), -1);
        }
        int[][] can = {{0, 0}, {0, 1000000}, {100, 0}, {100, 1000000}};
        for (int[] pair : can) {
            for (int what = 0; what <= 2; what++) {
                int k = what;
                int due = k == 0 ? 12 : k == 1 ? 0 : pair[0] == 0 ? 12 : 0;
                String call = "twelve(1, " + pair[0] + ", " + pair[1] + ", " + k + ")";
                EDGE.asked(Look.busy(), call, x -> x.twelve(1, pair[0], pair[1], k), due);
            }
        }
    }

    /** By a SLIP of 0 none slips, by 100 each; the first is as itself. */
    private static void twelveEnds() {
        HotIron x = with(3, "fire 0;strike 0 to 1;strike 1 to 2;strike 2 to 1", 5, 5, 5, 5);
        int[] seeds = {0, 1, 17, 999999, 1000000};
        for (int seed : seeds) {
            DUE.is("0, as the first", x.twelve(0, 0, seed, 0), 12);
            DUE.is("0, apart", x.twelve(0, 0, seed, 1), 0);
            DUE.is("0, as without", x.twelve(0, 0, seed, 2), 12);
            DUE.is("100, as the first", x.twelve(0, 100, seed, 0), 12);
            DUE.is("100, apart", x.twelve(0, 100, seed, 1), 0);
            DUE.is("100, as without", x.twelve(0, 100, seed, 2), 0);
        }
        x = with(3, "fire 0;punch 0;punch 0", 5, 5, 5, 5);
        DUE.is("without MOVES all are as without", x.twelve(0, 100, 7, 2), 12);
        x = with(3, "fire 1;fire 0", 3, 3, 3);
        DUE.is("twelve that are DROPPED", x.twelve(0, 50, 7, 0), 12);
        DUE.is("twelve that are DROPPED, as without", x.twelve(0, 50, 7, 2), 12);
    }

    /** How many of so many DRAWS of 100 one behind the other are below SLIP, in twelve rows of them. */
    private static int[] slipsOf(int seed, int slip, int draws) {
        int[] slipped = new int[12];
        long s = seed;
        for (int i = 0; i < 12 * draws; i++) {
            s = (s * 1103 + 12345) % 1000003;
            slipped[i / draws] += s % 100 < slip ? 1 : 0;
        }
        return slipped;
    }

    /** Twelve with so many MOVES from CELL 0 to CELL 1 each; by each DRAW below SLIP there is one less. */
    private static void check(HotIron x, int slip, int seed, int moves) {
        int[] slipped = slipsOf(seed, slip, moves);
        int asFirst = 0;
        int asWithout = 0;
        int most = 0;
        int least = moves;
        for (int many : slipped) {
            asFirst += many == slipped[0] ? 1 : 0;
            asWithout += many == 0 ? 1 : 0;
            most = Math.max(most, many);
            least = Math.min(least, many);
        }
        String call = "SLIP " + slip + ", SEED " + seed + ", MOVES " + moves;
        DUE.is(call + ", as the first", x.twelve(0, slip, seed, 0), asFirst);
        DUE.is(call + ", apart", x.twelve(0, slip, seed, 1), 2 * (most - least));
        DUE.is(call + ", as without", x.twelve(0, slip, seed, 2), asWithout);
    }

    /** "a DRAW of 100: below SLIP the BLOW is a DUD", for each SLIP: a DRAW that is just SLIP is not below it. */
    private static void twelveByDraws() {
        int[] seeds = {0, 1, 2, 500000, 999999, 1000000};
        for (int seed : seeds) {
            HotIron x = with(3, "fire 0;strike 0 to 1", 3, 3, 3, 3);
            for (int slip = 0; slip <= 100; slip++) {
                check(x, slip, seed, 1);
            }
        }
        // SEED 0: the first DRAW is 12345 modulo 100.
        HotIron x = with(3, "fire 0;strike 0 to 1", 3, 3, 3, 3);
        DUE.is("45 is not below 45", x.twelve(0, 45, 0, 0), x.twelve(0, 45, 0, 2));
        DUE.is("45 is below 46", x.twelve(0, 46, 0, 0), 12 - x.twelve(0, 46, 0, 2));
    }

    /** "modulo 1,000,003": SEEDS from which the first s is the least, the most, and just about a hundred. */
    private static void twelveAtTheWrap() {
        int[] firsts = {0, 1, 99, 100, 101, 999999, 1000000, 1000001, 1000002};
        for (int first : firsts) {
            int seed = 0;
            while ((seed * 1103L + 12345) % 1000003 != first) {
                seed++;
            }
            // Of 0 .. 1,000,002 two lead to where no SEED is.
            if (seed <= 1000000) {
                HotIron x = with(3, "fire 0;strike 0 to 1", 3, 3, 3, 3);
                int draw = first % 100;
                check(x, draw, seed, 1);
                check(x, Math.min(100, draw + 1), seed, 1);
                check(x, 0, seed, 1);
                check(x, 100, seed, 1);
            }
        }
    }

    /** "ahead of each MOVE": DUDS and COLD ones draw nothing. */
    private static void twelveDrawsAheadOfMovesAlone() {
        String[] others = {"strike 1 to 2", "strike 3 to 2", "strike 0 to 2", "punch 0", "weld 0", "shoulder 2", "fire 9"};
        for (String other : others) {
            // CELL 1 has one and CELL 2 has nine, so from one to the other nothing is moved.
            HotIron x = with(4, "fire 0;" + other + ";strike 0 to 1", 9, 1, 9, 3);
            for (int slip = 10; slip <= 90; slip += 20) {
                check(x, slip, 3 * slip, 1);
            }
        }
    }

    /** A BLOW by which the hand slips is used all the same. */
    private static void twelveSlipUsesTheBlow() {
        HotIron x = with(1, "fire 0;strike 0 to 1;strike 0 to 1;strike 0 to 1", 9, 1, 1, 1);
        for (int slip = 0; slip <= 100; slip += 10) {
            check(x, slip, 999 + slip, 1);
        }
        x = with(3, "fire 0;strike 0 to 1;strike 0 to 1;strike 0 to 1;strike 0 to 1", 9, 1, 1, 1);
        for (int slip = 0; slip <= 100; slip += 10) {
            check(x, slip, 999 + slip, 3);
        }
        x = with(3, "fire 0;strike 0 to 1;fire 9 if struck=1;strike 0 to 1 if struck=2", 9, 1, 1, 1);
        for (int slip = 0; slip <= 100; slip += 10) {
            check(x, slip, slip, 1);
        }
    }

    /** "how far two are apart at most, by IRON of all CELLS together": for each n, up to the last CELL. */
    private static void twelveApart() {
        int[][] bars = {{9, 1, 1}, {9, 1, 1, 1}, {9, 1, 1, 1, 1}};
        for (int[] bar : bars) {
            HotIron x = with(4, "fire 0;strike 0 to 1;strike 0 to 1;strike 0 to 1;strike 0 to 1", bar);
            for (int seed = 0; seed < 20; seed++) {
                check(x, 50, seed * 50000, 4);
            }
            int last = bar.length - 1;
            int[] mirrored = new int[bar.length];
            Arrays.fill(mirrored, 1);
            mirrored[last] = 9;
            x = with(2, "fire " + last + ";strike " + last + " to " + (last - 1) + ";strike " + last + " to " + (last - 1), mirrored);
            for (int seed = 0; seed < 20; seed++) {
                check(x, 50, seed * 50000, 2);
            }
        }
    }
}
