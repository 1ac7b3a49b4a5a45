/** Promises 21 to 23: change, made, twelve. */
public final class MadeTest {
    private static final Due DUE = new Due("MadeTest");

    public static void main(String[] args) {
        change();
        made();
        twelve();
        DUE.close();
    }

    private static void change() {
        HotIron x = new HotIron();
        DUE.is("change without", x.change(0, 0), -1);
        Due.recipe(x, "fire 1;strike 0 to 1;strike 1 to 2;strike 1 to 2");
        DUE.is("change(0, -1)", x.change(0, -1), -1);
        DUE.is("change(0, 3)", x.change(0, 3), -1);
        DUE.is("change(1, 0)", x.change(1, 0), -1);
        DUE.is("change(-1, 0)", x.change(-1, 0), -1);
        DUE.is("a blow ahead of the fire is cold", x.change(0, 0), 0);
        DUE.is("two moves", x.change(0, 1), 1);
        DUE.is("two alike", x.change(0, 2), 1);
        x = new HotIron();
        x.bar(1, 2);
        // CELL 1 has 1 behind the HEAT: only behind the first MOVE it has one to give.
        changes(x, "fire 1;strike 0 to 1;strike 1 to 2", 1, 0, "one to give");
        x.bar(1, 3);
        changes(x, "fire 1;shoulder 0;strike 0 to 1", 1, 0, "a shoulder");
        changes(x, "fire 1;shoulder 0;strike 2 to 1", 1, 1, "a shoulder elsewhere");
        changes(x, "fire 1;punch 0;punch 0;punch 0;punch 2", 3, 0, "the last blow: a crack elsewhere");
        changes(x, "fire 1;punch 0;weld 0", 1, 1, "welds are the same, though they hold by other odds");
        changes(x, "fire 1;strike 1 to 2;strike 2 to 1", 1, 0, "a fold on the way");
        changes(x, "fire 1;fire 2", 0, 1, "two heats");
        changes(x, "go 2;fire 1;fire 0;fire 0", 0, 0, "a go names numbers as before");
        changes(x, "go 2;go 2;fire 0", 0, 1, "two goes");
    }

    private static void changes(HotIron x, String text, int i, int due, String why) {
        x.image(0);
        DUE.is(why + ": recipe", Due.recipe(x, text), x.count(1) - 1);
        DUE.is(why, x.change(x.count(1) - 1, i), due);
        x.back(0);
    }

    private static void made() {
        HotIron x = new HotIron();
        DUE.is("no recipes", x.made(3333, 0, 0), 0);
        Due.recipe(x, "fire 0");
        Due.recipe(x, "fire 0;strike 0 to 1;strike 1 to 0");
        Due.recipe(x, "fire 0;fire 9");
        Due.recipe(x, "fire 0;punch 0;punch 0");
        Due.recipe(x, "fire 0;fire 0");
        Due.recipe(x, "fire 0;fire 1 if 1=2");
        DUE.is("2333", x.made(2333, 0, 0), 1 | 4 | 32);
        DUE.is("2333 with a fold", x.made(2333, 0, 2), 2);
        DUE.is("1333", x.made(1333, 0, 0), 16);
        DUE.is("1333 with a hole", x.made(1333, 1, 0), 8);
        DUE.is("none", x.made(9999, 0, 0), 0);
        DUE.is("three digits", x.made(233, 0, 0), -1);
        DUE.is("five digits", x.made(23333, 0, 0), -1);
        DUE.is("a digit 0", x.made(2303, 0, 0), -1);
        DUE.is("a last digit 0", x.made(2330, 0, 0), -1);
        DUE.is("below 0", x.made(-2333, 0, 0), -1);
        DUE.is("0", x.made(0, 0, 0), -1);
        DUE.is("all bits", x.made(2333, 15, 15), 0);
        DUE.is("holes where no cell is", x.made(2333, 16, 0), -1);
        DUE.is("folds where no cell is", x.made(2333, 0, 16), -1);
        DUE.is("holes below 0", x.made(2333, -1, 0), -1);
        DUE.is("folds below 0", x.made(2333, 0, -1), -1);
        x.wide(3);
        // With three CELLS the last one alone is cold.
        DUE.is("233", x.made(233, 0, 0), 1 | 4 | 32);
        DUE.is("2333 has too many digits", x.made(2333, 0, 0), -1);
        x.tongs(1 << 2);
        DUE.is("dropped", x.made(333, 0, 0), 0);
    }

    private static void twelve() {
        HotIron x = new HotIron();
        DUE.is("twelve without", x.twelve(0, 0, 0, 0), -1);
        Due.recipe(x, "fire 0;strike 0 to 1");
        DUE.is("slip below 0", x.twelve(0, -1, 0, 0), -1);
        DUE.is("slip above 100", x.twelve(0, 101, 0, 0), -1);
        DUE.is("seed below 0", x.twelve(0, 0, -1, 0), -1);
        DUE.is("seed above 1,000,000", x.twelve(0, 0, 1000001, 0), -1);
        DUE.is("seed of 1,000,000", x.twelve(0, 0, 1000000, 0), 12);
        DUE.is("what below 0", x.twelve(0, 0, 0, -1), -1);
        DUE.is("what above 2", x.twelve(0, 0, 0, 3), -1);
        DUE.is("no such recipe", x.twelve(1, 0, 0, 0), -1);
        DUE.is("recipe below 0", x.twelve(-1, 0, 0, 0), -1);
        DUE.is("no slip, as without", x.twelve(0, 0, 7, 2), 12);
        DUE.is("slips always, as the first", x.twelve(0, 100, 7, 0), 12);
        DUE.is("slips always, apart", x.twelve(0, 100, 7, 1), 0);
        DUE.is("slips always, as without", x.twelve(0, 100, 7, 2), 0);
        slipsByHand(x, 50, 7);
        slipsByHand(x, 30, 999999);
        slipsByHand(x, 99, 0);
        Due.recipe(x, "fire 0;strike 0 to 1;strike 1 to 0");
        // The second BLOW draws, too, and so the draws of the next ones are other ones.
        int bothOrNone = 0;
        int bothSlip = 0;
        long s = 12;
        for (int i = 0; i < 12; i++) {
            s = (s * 1103 + 12345) % 1000003;
            boolean first = s % 100 < 60;
            s = (s * 1103 + 12345) % 1000003;
            boolean second = s % 100 < 60;
            bothOrNone += first == second ? 1 : 0;
            bothSlip += first && second ? 1 : 0;
        }
        DUE.is("some have the iron without the fold", bothSlip > 0 && bothSlip < bothOrNone ? 1 : 0, 1);
        DUE.is("as without by iron alone", x.twelve(1, 60, 12, 2), bothOrNone);
        Due.recipe(x, "fire 0;fire 0;strike 0 to 1");
        DUE.is("a dud draws nothing, and is as without", x.twelve(2, 100, 5, 2), 12);
        ironAlone();
    }

    /** A hand that slips leads to other HEATS, FOLDS, HOLES, WELDS, SHOULDERS, CRACKS, but to the same IRON. */
    private static void ironAlone() {
        HotIron x = new HotIron();
        x.terms(0, 4);
        x.bar(0, 1);
        String first = "fire 1;strike 1 to 2;fire 2 if iron(1)=1;fire 1 if iron(1)=2;";
        String[] rest = {"go 15", "punch 0;punch 0", "weld 0", "shoulder 0", "weld 0;shoulder 0;punch 0;punch 0"};
        for (String steps : rest) {
            x.image(0);
            Due.recipe(x, first + steps);
            for (int seed = 0; seed < 12; seed++) {
                DUE.is("as the first, " + steps, x.twelve(0, 50, seed, 0), 12);
                DUE.is("apart, " + steps, x.twelve(0, 50, seed, 1), 0);
                DUE.is("as without, " + steps, x.twelve(0, 50, seed, 2), 12);
            }
            x.back(0);
        }
    }

    /** One MOVE each: the draws tell at once how many slip. */
    private static void slipsByHand(HotIron x, int slip, int seed) {
        long s = seed;
        int slipped = 0;
        boolean firstSlips = false;
        for (int i = 0; i < 12; i++) {
            s = (s * 1103 + 12345) % 1000003;
            boolean slips = s % 100 < slip;
            slipped += slips ? 1 : 0;
            firstSlips = i == 0 ? slips : firstSlips;
        }
        DUE.is("as the first", x.twelve(0, slip, seed, 0), firstSlips ? slipped : 12 - slipped);
        DUE.is("apart", x.twelve(0, slip, seed, 1), slipped == 0 || slipped == 12 ? 0 : 2);
        DUE.is("as without", x.twelve(0, slip, seed, 2), 12 - slipped);
    }
}
