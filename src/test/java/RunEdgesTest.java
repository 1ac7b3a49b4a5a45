import java.util.Arrays;

/** The edges that Terms III (a RUN, WELDS), Terms V (what it COSTS) and promises 13 to 16 name: run, came, iron, welds. */
public final class RunEdgesTest {
    private static final Due DUE = new Due("RunEdgesTest");
    private static final Edge EDGE = new Edge(DUE);
    private static final int MIN = Integer.MIN_VALUE;
    private static final int MAX = Integer.MAX_VALUE;

    public static void main(String[] args) {
        runCannot();
        runKeepsTheLatest();
        cameWithout();
        cameOfOthers();
        ironOfCells();
        ironOfTheLatest();
        weldsParts();
        partsOfCells();
        partsAtFirst();
        partsCount();
        comparisons();
        joinedTests();
        sums();
        beginsAnew();
        passedOver();
        dropped();
        goTo();
        hundredSteps();
        shoulders();
        punches();
        weldsCan();
        weldsCannot();
        weldsAnew();
        weldOdds();
        dudsByCells();
        dudsUseNothing();
        dudAheadOfCold();
        bitsOfEachCell();
        costs();
        DUE.close();
    }

    private static HotIron ran(int blows, String text, int... iron) {
        HotIron x = new HotIron();
        Due.bar(x, iron);
        x.terms(0, blows);
        DUE.is("recipe() of " + text, Due.recipe(x, text), 0);
        x.run(0);
        return x;
    }

    private static HotIron ran(String text) {
        return ran(3, text, 3, 3, 3, 3);
    }

    private static void came(HotIron x, String why, int... due) {
        for (int what = 0; what < due.length; what++) {
            DUE.is(why + ", came(" + what + ")", x.came(what), due[what]);
        }
    }

    /** "-2": there is no such RECIPE; the latest run() stays. */
    private static void runCannot() {
        int[] recipes = {MIN, -1, 2, 3, 7, 8, MAX};
        for (int recipe : recipes) {
            EDGE.refused(Look.busy(), "run(" + recipe + ")", x -> x.run(recipe), -2);
        }
        EDGE.refused(Look.full(), "run(8)", x -> x.run(8), -2);
        EDGE.refused(new HotIron(), "run(0) without RECIPES", x -> x.run(0), -2);
    }

    /** "kept as the latest: how many STEPS were gone through". */
    private static void runKeepsTheLatest() {
        EDGE.granted(Look.busy(), "run(0)", x -> x.run(0), 3, "");
        EDGE.granted(Look.busy(), "run(1)", x -> x.run(1), 10, "run");
        EDGE.granted(Look.full(), "run(7)", x -> x.run(7), 1, "run");
        HotIron x = ran("fire 0");
        DUE.is("the BAR is not worked", x.count(3), 12);
        x.run(0);
        DUE.is("from the BAR on again", x.iron(0), 2);
    }

    /** "NOTHING (-1000) without". */
    private static void cameWithout() {
        for (int what = 0; what < 14; what++) {
            int k = what;
            EDGE.asked(new HotIron(), "came(" + k + ") without", x -> x.came(k), -1000);
        }
        HotIron x = new HotIron();
        Due.recipe(x, "fire 0");
        x.change(0, 0);
        x.made(3333, 0, 0);
        x.twelve(0, 1, 2, 1);
        x.run(1);
        DUE.is("none of these is a run()", x.came(0), -1000);
        DUE.is("iron", x.iron(0), -1);
        DUE.is("welds", x.welds(1), -1);
    }

    private static void cameOfOthers() {
        int[] whats = {MIN, -1, 14, 15, MAX};
        for (int what : whats) {
            EDGE.asked(Look.busy(), "came(" + what + ")", x -> x.came(what), -1000);
            EDGE.asked(new HotIron(), "came(" + what + ") without", x -> x.came(what), -1000);
        }
        EDGE.asked(Look.busy(), "came(0)", x -> x.came(0), 1);
        EDGE.asked(Look.busy(), "came(13)", x -> x.came(13), 30 + 2 * 7);
    }

    /** "IRON of a CELL behind the latest run(); NONE". */
    private static void ironOfCells() {
        for (int n = 3; n <= 5; n++) {
            int[] none = {MIN, -1, n, n + 1, 5, MAX};
            for (int cell : none) {
                HotIron x = Look.busy();
                x.wide(n);
                x.run(0);
                EDGE.asked(x, "iron(" + cell + ") of " + n, y -> y.iron(cell), -1);
            }
            HotIron x = Look.busy();
            x.wide(n);
            x.run(1);
            for (int cell = 0; cell < n; cell++) {
                DUE.is("iron(" + cell + ") of " + n, x.iron(cell) > 0 ? 1 : 0, 1);
            }
        }
        EDGE.asked(new HotIron(), "iron(0) without", x -> x.iron(0), -1);
    }

    /** The latest run() has its own CELLS, whatever becomes of the BAR. */
    private static void ironOfTheLatest() {
        HotIron x = ran("fire 0");
        x.bar(1, 9);
        DUE.is("IRON of then", Due.irons(x, 4), 2333);
        x.wide(3);
        DUE.is("four CELLS then", x.iron(3), 3);
        x.wide(5);
        DUE.is("no fifth then", x.iron(4), -1);
        x.run(0);
        DUE.is("a fifth now", x.iron(4), 3);
        x.wide(3);
        x.run(0);
        DUE.is("no fourth now", x.iron(3), -1);
    }

    /** "upper (part 0), lower number (1), in lowest terms (1 by 1 without). NONE". */
    private static void weldsParts() {
        int[] parts = {MIN, -1, 2, 3, MAX};
        for (int part : parts) {
            EDGE.asked(Look.busy(), "welds(" + part + ")", x -> x.welds(part), -1);
        }
        // 30 and SAND 10, no BLOW left of two: 40 in hundredths.
        EDGE.asked(Look.busy(), "welds(0)", x -> x.welds(0), 2);
        EDGE.asked(Look.busy(), "welds(1)", x -> x.welds(1), 5);
        EDGE.asked(new HotIron(), "welds(0) without a run()", x -> x.welds(0), -1);
        EDGE.asked(new HotIron(), "welds(1) without a run()", x -> x.welds(1), -1);
        HotIron x = ran("fire 0");
        DUE.is("welds(0) without WELDS", x.welds(0), 1);
        DUE.is("welds(1) without WELDS", x.welds(1), 1);
    }

    /** "(0 both without such a CELL)", for each n: the last CELL and the first that is none. */
    private static void partsOfCells() {
        for (int n = 3; n <= 5; n++) {
            int[] bar = new int[n];
            Arrays.fill(bar, 4);
            int last = n - 1;
            so("iron(" + last + ")=3 and iron(" + n + ")=0 and iron(0-1)=0 and iron(99+99)=0 and iron(0)=4", last, bar);
            so("hot(" + last + ")=1 and hot(" + n + ")=0 and hot(0-1)=0 and hot(99)=0 and hot(0)=0", last, bar);
            so("hot(0-1)=0 and hot(0)=1", 0, bar);
            so("cells=" + n, 0, bar);
        }
    }

    private static void so(String test, int at, int... bar) {
        HotIron x = ran(3, "fire " + at + ";fire 99 if " + test, bar);
        DUE.is(test, x.came(3), 1);
    }

    /** "nothing HOT, no BLOW left". */
    private static void partsAtFirst() {
        HotIron x = ran("fire 99 if left=0 and heats=0 and struck=0 and hot(0)+hot(1)+hot(2)+hot(3)=0");
        DUE.is("at first", x.came(3), 1);
        x = ran("punch 0;punch 3;shoulder 0;shoulder 2;weld 0;weld 2;strike 0 to 1;strike 3 to 2");
        came(x, "all COLD at first", 0, 0, 0, 0, 8, 0, -1, 0, 0, 0, 0, 1 | 8 | 4);
    }

    /** "heats, struck: how many HEATS, BLOWS (not COLD) there were": DUDS that use one, too, those without a CELL not. */
    private static void partsCount() {
        DUE.is("heats", ran("fire 0;fire 9;fire 0;fire 3 if heats=2;fire 99 if heats=3").came(3), 2);
        DUE.is("struck by each kind", ran(4, "fire 1;strike 1 to 2;shoulder 2;punch 0;weld 0;fire 99 if struck=4",
                3, 3, 3, 3).came(3), 1);
        DUE.is("struck by a DUD", ran(3, "fire 0;strike 1 to 2;fire 99 if struck=1 and left=2", 3, 1, 3, 3).came(3), 2);
        DUE.is("not by a COLD one", ran("fire 0;punch 3;fire 99 if struck=0 and left=3").came(3), 1);
        DUE.is("not without a CELL", ran("fire 0;punch 4;fire 99 if struck=0 and left=3").came(3), 2);
        DUE.is("not gone by a HEAT", ran("fire 0;punch 0;fire 0;fire 99 if struck=1 and left=3").came(3), 1);
    }

    private static void is(String test, boolean due) {
        DUE.is(test, ran("fire 99 if " + test).came(3), due ? 1 : 0);
    }

    /** "<", ">", "=" of numbers that are one apart and of such that are not. */
    private static void comparisons() {
        int[] numbers = {0, 1, 2, 98, 99};
        for (int a : numbers) {
            for (int b : numbers) {
                is(a + "<" + b, a < b);
                is(a + ">" + b, a > b);
                is(a + "=" + b, a == b);
                is("0-" + a + "<0-" + b, -a < -b);
                is("0-" + a + ">0-" + b, -a > -b);
                is("0-" + a + "=0-" + b, -a == -b);
            }
        }
    }

    /** "and" binds more than "or", "not" more than both; any number of each. */
    private static void joinedTests() {
        for (int bits = 0; bits < 8; bits++) {
            boolean a = (bits & 1) != 0;
            boolean b = (bits & 2) != 0;
            boolean c = (bits & 4) != 0;
            String p = a ? "1=1" : "1=2";
            String q = b ? "2>1" : "1>1";
            String r = c ? "1<2" : "2<2";
            is(p + " or " + q + " and " + r, a || b && c);
            is(p + " and " + q + " or " + r, a && b || c);
            is("(" + p + " or " + q + ") and " + r, (a || b) && c);
            is(p + " and (" + q + " or " + r + ")", a && (b || c));
            is(p + " or " + q + " or " + r, a || b || c);
            is(p + " and " + q + " and " + r, a && b && c);
            is("not " + p + " and " + q + " or not " + r, !a && b || !c);
            is("not " + p + " or " + q + " and not " + r, !a || b && !c);
            is("not (" + p + " or " + q + ") and " + r, !(a || b) && c);
            is("not (" + p + " and not (" + q + " or not " + r + "))", !(a && !(b || !c)));
            is("not not " + p + " and not not not " + q, a && !b);
            is("((((" + p + ")))) or ((" + q + ") and ((" + r + ")))", a || b && c);
        }
        is("not ".repeat(90) + "1=1", true);
        is("not ".repeat(91) + "1=1", false);
        is("1=2 or ".repeat(28) + "1=1", true);
        is("1=1 and ".repeat(28) + "1=2", false);
    }

    /** From the left on; "[" SUM "]" ahead; as far as 60 PARTS of 99 and eight brackets go. */
    private static void sums() {
        is("9-5-3=1", true);
        is("9-[5-3]=7", true);
        is("9-5+3=7", true);
        is("9-[5+3]=1", true);
        is("1-[2-[3-[4-[5-[6-[7-[8-[9]]]]]]]]=5", true);
        is("[[[[[[[[9]-8]-7]-6]-5]-4]-3]-2]=0-26", true);
        is("99" + "+99".repeat(57) + ">99", true);
        is("0" + "-99".repeat(56) + "<0-99", true);
        is("99" + "+99".repeat(28) + "=99" + "+99".repeat(28), true);
        is("iron(iron(iron(0)+hot(0)-3)-3)=3", true);
        HotIron x = ran("fire [[1]-[1]];strike [2-[1-[0]]]-1 to iron(0)-[0+1] if [1-[1]]=heats-1");
        DUE.is("a BLOW from 0 to 1", Due.irons(x, 4), 1433);
    }

    /** "goes from the BAR on": nothing of another RUN is left. */
    private static void beginsAnew() {
        HotIron x = ran("punch 0;fire 0;punch 0;shoulder 0;weld 0;go 6;fire 0;strike 2 to 1");
        came(x, "first", 2, 4, 1, 0, 1, 2, -1, 1, 0, 1, 0, 1);
        x.run(0);
        came(x, "the same again", 2, 4, 1, 0, 1, 2, -1, 1, 0, 1, 0, 1);
        DUE.is("IRON", Due.irons(x, 4), 1423);
        Due.recipe(x, "fire 0;punch 0;strike 0 to 1");
        x.run(1);
        came(x, "one PUNCH, no SHOULDER", 1, 2, 1, 0, 0, 1, -1, 0, 0, 0, 2, 0);
        DUE.is("no WELDS", x.welds(0), 1);
        Due.recipe(x, "punch 0");
        x.run(2);
        came(x, "nothing HOT", 0, 0, 0, 0, 1, 0, -1, 0, 0, 0, 0, 1);
        Due.recipe(x, "fire 9 if left=0;fire 9 if hot(0)+hot(1)=0;fire 9 if heats+struck=0;fire 9 if iron(0)=3");
        x.run(0);
        x.run(3);
        came(x, "no BLOW left, nothing HOT, no HEATS, no BLOWS, the BAR's IRON", 0, 0, 0, 4);
        x.run(1);
        x.run(3);
        came(x, "behind another RUN", 0, 0, 0, 4);
    }

    /** "one whose "if" is not so is passed over", and counts among those gone through. */
    private static void passedOver() {
        String[] steps = {"fire 0", "strike 0 to 1", "shoulder 0", "punch 0", "weld 0", "go 0", "fire 9", "strike 0 to 9"};
        for (String step : steps) {
            HotIron x = ran("fire 0;" + step + " if 1=2");
            DUE.is(step + " passed over", x.run(0), 2);
            came(x, step + " passed over", 1, 0, 0, 0, 0, 1, -1, 0, 0, 0, 0, 0);
        }
        HotIron x = ran(3, "fire 1 if 1=2;fire 0", 3, 3, 3);
        DUE.is("one that could not be done is passed over, too", x.came(6), -1);
        DUE.is("HEATS", x.came(0), 1);
    }

    /** "can it not be done, the RUN ends there: DROPPED"; that STEP counts among those gone through. */
    private static void dropped() {
        HotIron x = ran(3, "fire 1;fire 0", 3, 3, 3);
        DUE.is("at the first", x.run(0), 1);
        came(x, "at the first", 0, 0, 0, 0, 0, 0, 0, 0, 0, 0, 0, 0, 0, 0);
        x = ran(3, "fire 0;punch 0;strike 0 to 1;fire 1", 4, 3, 3);
        DUE.is("at the last", x.run(0), 4);
        came(x, "at the last", 1, 2, 1, 0, 0, 1, 3, 0, 0, 0, 0, 0, 3, 7);
        DUE.is("all ahead of it stays", Due.irons(x, 3), 243);
        x = ran(3, "go 2;fire 0;fire 1;fire 0", 3, 3, 3);
        DUE.is("its number, not how many", x.came(6), 2);
        DUE.is("gone through", x.run(0), 2);
        x = ran(3, "fire 0;go 0 if struck<33 and heats<50;fire 1", 3, 3, 3);
        DUE.is("ended behind a hundred ahead of it", x.came(6), -1);
        DUE.is("gone through", x.run(0), 100);
    }

    /** ""go": on at that STEP (one that is not there: the RUN ends)". */
    private static void goTo() {
        DUE.is("to the last", ran("go 2;fire 0;punch 0").run(0), 2);
        DUE.is("behind the last", ran("go 3;fire 0;punch 0").run(0), 1);
        DUE.is("far behind the last", ran("go 15;fire 0;punch 0").run(0), 1);
        DUE.is("to the next", ran("go 1;fire 0;punch 0").came(0), 1);
        String sixteen = "go 15" + ";fire 0".repeat(14) + ";fire 3";
        HotIron x = ran(sixteen);
        DUE.is("to the sixteenth", x.run(0), 2);
        DUE.is("at CELL 3", x.iron(3), 2);
        DUE.is("its HEAT", x.came(0), 1);
        x = ran("fire 0;go 0 if heats<2");
        DUE.is("back to the first", x.run(0), 4);
    }

    /** "It ends behind the last STEP, and behind 100 STEPS (those passed over count, too)". */
    private static void hundredSteps() {
        HotIron x = ran("fire 0;fire 0;go 0");
        DUE.is("a hundred", x.run(0), 100);
        DUE.is("the hundredth is gone through", x.came(0), 67);
        x = ran("fire 0 if 1=2;fire 0 if 1=2;go 0 if 1=1");
        DUE.is("those passed over", x.run(0), 100);
        x = ran("fire 0;go 0 if heats<49;go 3;fire 0");
        DUE.is("just a hundred: the last one is done", x.run(0), 100);
        DUE.is("HEATS", x.came(0), 50);
        x = ran("fire 0;go 0 if heats<49;fire 0");
        DUE.is("ninety-nine and the end", x.run(0), 99);
        DUE.is("HEATS", x.came(0), 50);
        x = ran("fire 0;go 0 if heats<50;fire 0");
        DUE.is("a hundred ahead of the last one", x.run(0), 100);
        DUE.is("HEATS", x.came(0), 50);
        x = ran("go 0");
        DUE.is("go alone", x.run(0), 100);
        x = ran("go 15" + ";go 0".repeat(15));
        DUE.is("two of sixteen", x.run(0), 100);
    }

    /** "between a CELL and the next one there is a SHOULDER from then on": needs a BLOW left and the CELL HOT. */
    private static void shoulders() {
        HotIron x = ran("fire 1;strike 1 to 2;shoulder 1;strike 1 to 2");
        came(x, "from then on", 1, 3, 1, 1, 0, 1, -1, 2, 0, 0, 4, 0);
        x = ran("fire 1;shoulder 1;shoulder 1");
        came(x, "anew", 1, 2, 0, 0, 0, 1, -1, 2, 0, 0, 0, 0);
        x = ran("fire 0;shoulder 1");
        DUE.is("the CELL is HOT, the next one not", x.came(7), 2);
        x = ran("fire 3;shoulder 1");
        came(x, "the next one is HOT alone", 1, 0, 0, 0, 1, 1, -1, 0, 0, 0, 0, 2);
        x = ran(1, "fire 1;punch 1;shoulder 1", 3, 3, 3, 3);
        came(x, "no BLOW left", 1, 1, 0, 0, 1, 1, -1, 0, 0, 0, 0, 2);
    }

    /** "behind the second time (no more counts) it is a HOLE and loses one IRON, if it has more than one". */
    private static void punches() {
        int[][] cases = {{0, 0, 2, 0}, {1, 0, 2, 0}, {2, 1, 1, 1}, {3, 1, 1, 1}, {4, 1, 1, 1}};
        for (int[] many : cases) {
            HotIron x = ran(4, "fire 0" + ";punch 1".repeat(many[0]), 1, 2, 3, 3);
            DUE.is("HOLES by " + many[0], x.came(8), many[1] << 1);
            DUE.is("IRON by " + many[0], x.iron(1), many[2]);
            DUE.is("SCALE by " + many[0], x.came(5), many[3]);
            DUE.is("BLOWS by " + many[0], x.came(1), many[0]);
        }
        HotIron x = ran(4, "fire 0;punch 1;punch 1;punch 1;punch 1", 1, 9, 3, 3);
        DUE.is("one IRON alone", x.iron(1), 8);
        x = ran(4, "fire 0;punch 1;punch 1", 1, 1, 3, 3);
        came(x, "one stays", 1, 2, 0, 0, 0, 0, -1, 0, 2, 0, 0, 0);
        DUE.is("IRON", x.iron(1), 1);
        x = ran("punch 0;fire 0;punch 0;punch 3;punch 2");
        came(x, "COLD ones do not count", 1, 1, 0, 0, 3, 1, -1, 0, 0, 0, 0, 1 | 8 | 4);
        x = ran(1, "fire 0;punch 0;fire 0;punch 0", 4, 3, 3, 3);
        came(x, "in two HEATS", 2, 2, 0, 0, 0, 3, -1, 0, 1, 0, 0, 0);
        DUE.is("IRON", x.iron(0), 1);
        x = ran("fire 1;punch 0;punch 1;punch 2");
        DUE.is("each CELL has its own", x.came(8), 0);
    }

    /** ""weld": both, and the latest HEAT was at one of them". */
    private static void weldsCan() {
        for (int p = 0; p < 5; p++) {
            for (int cell = 0; cell < 4; cell++) {
                boolean can = p == cell || p == cell + 1;
                HotIron x = ran(3, "fire " + p + ";weld " + cell, 3, 3, 3, 3, 3);
                String call = "HEAT at " + p + ", weld " + cell;
                DUE.is(call + ": WELDS", x.came(9), can ? 1 << cell : 0);
                DUE.is(call + ": COLD", x.came(4), can ? 0 : 1);
                DUE.is(call + ": CRACKS", x.came(11), can ? 0 : 1 << cell);
                DUE.is(call + ": BLOWS", x.came(1), can ? 1 : 0);
            }
        }
    }

    private static void weldsCannot() {
        HotIron x = ran(1, "fire 1;punch 1;weld 1", 3, 3, 3, 3);
        came(x, "no BLOW left", 1, 1, 0, 0, 1, 1, -1, 0, 0, 0, 0, 2);
        x = ran("weld 1");
        came(x, "no HEAT", 0, 0, 0, 0, 1, 0, -1, 0, 0, 0, 0, 2);
        x = ran("fire 1;fire 3;weld 1;weld 0");
        came(x, "a HEAT that is not the latest", 2, 0, 0, 0, 2, 2, -1, 0, 0, 0, 0, 3);
        x = ran("fire 1;fire 9;weld 1");
        DUE.is("a DUD is no HEAT", x.came(9), 2);
        x = ran("fire 1;weld 0;strike 0 to 1");
        DUE.is("a WELD does not hold IRON back", x.came(2), 1);
    }

    /** "("weld" anew: the later one counts)"; one that is COLD is none. */
    private static void weldsAnew() {
        HotIron x = ran("fire 1;weld 1;weld 1");
        odds(x, "anew", 60);
        DUE.is("one WELD", x.came(9), 2);
        DUE.is("two BLOWS", x.came(1), 2);
        odds(ran("fire 1;punch 0;weld 1;fire 2;weld 1"), "anew in another HEAT", 70);
        odds(ran(1, "fire 1;weld 1;weld 1", 3, 3, 3, 3), "a COLD one behind it", 50);
        odds(ran("fire 1;weld 1;fire 3;weld 1"), "a COLD one in another HEAT", 70);
    }

    private static void odds(HotIron x, String why, int hundredths) {
        int common = 100;
        while (100 % common != 0 || hundredths % common != 0) {
            common--;
        }
        DUE.is(why + ", welds(0)", x.welds(0), hundredths / common);
        DUE.is(why + ", welds(1)", x.welds(1), 100 / common);
    }

    /** "each holds by 30 and 10 for each BLOW left behind it and SAND, in hundredths, 100 at most". */
    private static void weldOdds() {
        int[] sands = {0, 1, 9, 10, 20, 39, 40, 41, 49, 50};
        for (int blows = 1; blows <= 4; blows++) {
            for (int used = 0; used < blows; used++) {
                for (int sand : sands) {
                    HotIron x = ran(blows, "fire 1" + ";punch 2".repeat(used) + ";weld 0", 3, 3, 3, 3);
                    x.terms(4, sand);
                    x.run(0);
                    int left = blows - used - 1;
                    odds(x, left + " left, SAND " + sand, Math.min(100, 30 + 10 * left + sand));
                }
            }
        }
        HotIron x = ran("fire 1;weld 0");
        x.terms(4, 50);
        odds(x, "SAND of then", 70);
        x = ran(1, "fire 0;weld 0;fire 1;weld 1;fire 2;weld 2;fire 3;weld 3", 3, 3, 3, 3, 3);
        x.terms(4, 1);
        x.run(0);
        DUE.is("four WELDS by 31", x.welds(0), 31L * 31 * 31 * 31);
        DUE.is("four WELDS by 31", x.welds(1), 100_000_000L);
        x.terms(0, 4);
        x.terms(4, 50);
        x.run(0);
        odds(x, "four WELDS that hold", 100);
    }

    /** "What names a CELL that is not there (for "strike" one that is not beside it, for "shoulder", "weld" no next one)". */
    private static void dudsByCells() {
        for (int n = 3; n <= 5; n++) {
            int last = n - 1;
            String[] duds = {"fire " + n, "fire 0-1", "fire 99+99", "punch " + n, "punch 0-1", "shoulder " + last, "shoulder " + n,
                "shoulder 0-1", "weld " + last, "weld " + n, "weld 0-1", "strike 0 to 2", "strike 2 to 0", "strike 1 to 1",
                "strike " + last + " to " + n, "strike " + n + " to " + last, "strike 0 to 0-1", "strike 0-1 to 0",
                "strike 0 to 99", "strike 99 to 98", "strike 0-1 to 0-2"};
            for (String step : duds) {
                HotIron x = ran(4, "fire " + last + ";" + step, bar(n));
                came(x, step + " of " + n, 1, 0, 0, 1, 0, 1, -1, 0, 0, 0, 0, 0);
            }
            String[] rights = {"punch " + last, "shoulder " + (last - 1), "weld " + (last - 1), "strike " + last + " to " + (last - 1),
                "strike " + (last - 1) + " to " + last};
            for (String step : rights) {
                HotIron x = ran(4, "fire " + last + ";" + step, bar(n));
                came(x, step + " of " + n, 1, 1, step.startsWith("strike") ? 1 : 0, 0, 0, 1);
            }
        }
    }

    private static int[] bar(int n) {
        int[] bar = new int[n];
        Arrays.fill(bar, 5);
        return bar;
    }

    /** "a DUD (that uses no BLOW, nothing else)": the HEAT, what is HOT and the BLOWS left stay. */
    private static void dudsUseNothing() {
        String duds = ";fire 4;punch 4;shoulder 3;weld 3;strike 3 to 4;strike 3 to 1";
        HotIron x = ran(1, "fire 3" + duds + ";weld 2", 3, 3, 3, 3);
        came(x, "a BLOW is left still", 1, 1, 0, 6, 0, 1, -1, 0, 0, 4, 0, 0);
        DUE.is("COAL", x.came(12), 3);
        DUE.is("minutes", x.came(13), 6);
    }

    /** What names no CELL is a DUD even when nothing is HOT. */
    private static void dudAheadOfCold() {
        HotIron x = ran("punch 4;shoulder 3;weld 3;strike 3 to 4;strike 0 to 2");
        came(x, "DUDS", 0, 0, 0, 5, 0, 0, -1, 0, 0, 0, 0, 0);
    }

    /** "7 SHOULDERS (bit k: behind CELL k), 8 HOLES, 9 WELDS (as SHOULDERS), 10 FOLDS, 11 CRACKS, as bits". */
    private static void bitsOfEachCell() {
        for (int n = 3; n <= 5; n++) {
            for (int cell = 0; cell < n; cell++) {
                int bit = 1 << cell;
                // At the middle of three CELLS no HEAT can be done.
                String fire = "fire " + (n == 3 && cell == 1 ? 0 : cell);
                int from = cell == n - 1 ? cell - 1 : cell + 1;
                int[] low = bar(n);
                low[from] = 2;
                HotIron hole = ran(4, fire + ";punch " + cell + ";punch " + cell, bar(n));
                came(hole, "HOLE of " + cell, 1, 2, 0, 0, 0, 2, -1, 0, bit, 0, 0, 0);
                HotIron fold = ran(4, fire + ";strike " + from + " to " + cell, low);
                came(fold, "FOLD of " + cell, 1, 1, 1, 0, 0, 1, -1, 0, 0, 0, bit, 0);
                HotIron crack = ran(4, "punch " + cell, bar(n));
                came(crack, "CRACK of " + cell, 0, 0, 0, 0, 1, 0, -1, 0, 0, 0, 0, bit);
            }
            for (int cell = 0; cell < n - 1; cell++) {
                int bit = 1 << cell;
                String fire = "fire " + (n == 3 ? 2 * cell : cell);
                HotIron shoulder = ran(4, fire + ";shoulder " + cell, bar(n));
                came(shoulder, "SHOULDER of " + cell, 1, 1, 0, 0, 0, 1, -1, bit, 0, 0, 0, 0);
                HotIron weld = ran(4, fire + ";weld " + cell, bar(n));
                came(weld, "WELD of " + cell, 1, 1, 0, 0, 0, 1, -1, 0, 0, bit, 0, 0);
            }
        }
    }

    /** "COAL and HEATING minutes for each HEAT, STRIKING minutes for each BLOW that is not COLD". */
    private static void costs() {
        HotIron x = ran("go 1");
        DUE.is("COAL of none", x.came(12), 0);
        DUE.is("minutes of none", x.came(13), 0);
        x = ran(1, "fire 0;punch 0;punch 0;strike 9 to 9;fire 9", 3, 3, 3, 3);
        DUE.is("COAL of one HEAT", x.came(12), 3);
        DUE.is("neither COLD ones nor DUDS without a CELL", x.came(13), 6);
        x = ran(4, "fire 0;strike 0 to 1;strike 1 to 2;weld 0;shoulder 0", 1, 9, 9, 3);
        DUE.is("DUDS that use a BLOW", x.came(13), 5 + 4);
        x = ran(3, "fire 0;punch 0;punch 0;go 0", 3, 3, 3, 3);
        x.terms(1, 100);
        x.terms(2, 60);
        x.terms(3, 60);
        x.run(0);
        DUE.is("COAL of 25 HEATS", x.came(12), 2500);
        DUE.is("minutes of 25 HEATS and 50 BLOWS", x.came(13), 25 * 60 + 50 * 60);
        x.terms(1, 0);
        x.terms(2, 0);
        x.terms(3, 0);
        DUE.is("COAL of then", x.came(12), 2500);
        x.run(0);
        DUE.is("COAL for nothing", x.came(12), 0);
        DUE.is("minutes for nothing", x.came(13), 0);
        x = ran(3, "fire 0;fire 1", 3, 3, 3);
        DUE.is("a HEAT that can't be done COSTS nothing", x.came(12), 3);
    }
}
