/** Promises 13 to 16: run, came, iron, welds. */
public final class RunTest {
    private static final Due DUE = new Due("RunTest");

    public static void main(String[] args) {
        without();
        heats();
        blows();
        cold();
        shouldersAndHoles();
        welds();
        dudsWithoutCell();
        tests();
        ways();
        costs();
        theLatest();
        DUE.close();
    }

    private static HotIron ran(String text, int... iron) {
        HotIron x = new HotIron();
        Due.bar(x, iron);
        DUE.is("recipe \"" + text + "\"", Due.recipe(x, text), 0);
        x.run(0);
        return x;
    }

    /** All of came(0) to came(11) in their order. */
    private static void came(HotIron x, String why, int... due) {
        for (int what = 0; what < due.length; what++) {
            DUE.is(why + ", came(" + what + ")", x.came(what), due[what]);
        }
    }

    private static void without() {
        HotIron x = new HotIron();
        for (int what = -1; what <= 14; what++) {
            DUE.is("came without", x.came(what), -1000);
        }
        DUE.is("iron without", x.iron(0), -1);
        DUE.is("welds without", x.welds(0), -1);
        DUE.is("run without", x.run(0), -2);
        DUE.is("run(-1)", x.run(-1), -2);
        DUE.is("still without", x.came(0), -1000);
        DUE.is("refused by -2", x.count(6), 2);
        Due.recipe(x, "go 1");
        DUE.is("run(0)", x.run(0), 1);
        DUE.is("came(-1)", x.came(-1), -1000);
        DUE.is("came(14)", x.came(14), -1000);
        DUE.is("iron(-1)", x.iron(-1), -1);
        DUE.is("iron(4)", x.iron(4), -1);
        DUE.is("iron(3)", x.iron(3), 3);
        DUE.is("welds(0)", x.welds(0), 1);
        DUE.is("welds(1)", x.welds(1), 1);
        DUE.is("welds(2)", x.welds(2), -1);
        DUE.is("welds(-1)", x.welds(-1), -1);
        DUE.is("run(1)", x.run(1), -2);
    }

    private static void heats() {
        HotIron x = ran("fire 0;fire 0;fire 3", 2, 3, 4, 5);
        came(x, "heats", 3, 0, 0, 0, 0, 2, -1, 0, 0, 0, 0, 0);
        DUE.is("scale only above one", Due.irons(x, 4), 1344);
        x = ran("fire 1;fire 0", 3, 3, 3);
        DUE.is("no cell is cold", x.came(6), 0);
        DUE.is("dropped: no heat", x.came(0), 0);
        DUE.is("dropped: no scale", Due.irons(x, 3), 333);
        x = ran("fire 0;strike 0 to 1;fire 3;fire 0", 3, 3, 3, 4);
        DUE.is("all held", x.came(0), 3);
        x.tongs(1 << 4);
        // CELL 3 has 4; at CELL 3 CELL 1 has 4; then CELLS 2 and 3 have 3.
        DUE.is("held by 4 until it is 3", x.run(0), 4);
        DUE.is("dropped at 3", x.came(6), 3);
        DUE.is("two heats ahead of it", x.came(0), 2);
        DUE.is("as it was dropped", Due.irons(x, 4), 1433);
        x.tongs(1 << 3);
        DUE.is("held by CELL 2", x.run(0), 3);
        DUE.is("dropped at 2", x.came(6), 2);
    }

    private static void blows() {
        HotIron x = ran("fire 1;strike 0 to 1;strike 2 to 1;strike 1 to 2;strike 3 to 2", 3, 3, 3, 3);
        came(x, "blows", 1, 3, 3, 0, 1, 1, -1, 0, 0, 0, 0, 8);
        DUE.is("moved", Due.irons(x, 4), 2333);
        x = ran("fire 1;strike 3 to 2;strike 3 to 2", 3, 3, 3, 3);
        came(x, "one of both is hot", 1, 2, 2, 0, 0, 1, -1, 0, 0, 0, 1 << 2, 0);
        DUE.is("moved from the cold one", Due.irons(x, 4), 3251);
        x = ran("fire 0;strike 0 to 1;strike 0 to 1", 2, 9, 3, 3);
        came(x, "duds", 1, 2, 0, 2, 0, 1, -1, 0, 0, 0, 0, 0);
        DUE.is("one is too few", Due.irons(x, 4), 1933);
        x = ran("fire 0;strike 1 to 0;strike 1 to 0;strike 1 to 0", 9, 3, 3, 3);
        came(x, "nine is full", 1, 3, 1, 2, 0, 1, -1, 0, 0, 0, 1, 0);
        DUE.is("up to nine", Due.irons(x, 4), 9233);
        x = ran("fire 1;strike 0 to 1", 3, 4, 3, 3);
        came(x, "twice is no fold", 1, 1, 1, 0, 0, 1, -1, 0, 0, 0, 0, 0);
        DUE.is("twice", Due.irons(x, 4), 2433);
        x = ran("fire 1;strike 0 to 1;strike 1 to 0;strike 1 to 0", 3, 5, 3, 3);
        came(x, "a fold stays", 1, 3, 3, 0, 0, 1, -1, 0, 0, 0, 2, 0);
        DUE.is("behind the fold", Due.irons(x, 4), 4333);
    }

    private static void cold() {
        HotIron x = ran("strike 2 to 1;shoulder 1;punch 3;weld 0", 3, 3, 3, 3);
        came(x, "nothing hot at first", 0, 0, 0, 0, 4, 0, -1, 0, 0, 0, 0, 15);
        x = ran("fire 0;strike 2 to 3;strike 2 to 1;shoulder 2;shoulder 1;punch 2;punch 0", 3, 3, 3, 3);
        came(x, "cold cells", 1, 3, 1, 0, 3, 1, -1, 2, 0, 0, 0, 4);
        x = ran("fire 0;punch 0;punch 0;punch 0;punch 0;shoulder 0;strike 0 to 1", 3, 3, 3, 3);
        came(x, "no blow left", 1, 3, 0, 0, 3, 2, -1, 0, 1, 0, 0, 1);
    }

    private static void shouldersAndHoles() {
        HotIron x = ran("fire 1;shoulder 0;strike 0 to 1;strike 1 to 0;fire 1;strike 1 to 2;shoulder 2", 3, 5, 3, 3);
        came(x, "a shoulder holds both ways", 2, 5, 1, 2, 0, 2, -1, 5, 0, 0, 0, 0);
        DUE.is("iron", Due.irons(x, 4), 3243);
        x = ran("fire 1;punch 2;fire 1;punch 2;punch 2;punch 2;fire 1;punch 0;punch 0", 2, 1, 3, 3);
        came(x, "holes", 3, 6, 0, 0, 0, 2, -1, 0, 5, 0, 0, 0);
        DUE.is("a hole loses one, once", Due.irons(x, 4), 1123);
        x = ran("fire 0;punch 1;punch 1", 3, 1, 3, 3);
        came(x, "a hole in one", 1, 2, 0, 0, 0, 1, -1, 0, 2, 0, 0, 0);
        DUE.is("one stays", Due.irons(x, 4), 2133);
        x = ran("shoulder 1;fire 1;strike 1 to 2", 3, 3, 3, 3);
        DUE.is("a cold shoulder is none", x.came(2), 1);
    }

    private static void welds() {
        HotIron x = ran("fire 1;weld 0;weld 1;weld 2", 3, 3, 3, 3);
        came(x, "welds", 1, 2, 0, 0, 1, 1, -1, 0, 0, 3, 0, 4);
        // 30 + 20 + 20 and 30 + 10 + 20 in hundredths.
        DUE.is("70 by 60", x.welds(0), 21);
        DUE.is("70 by 60", x.welds(1), 50);
        x = ran("fire 1;weld 0;weld 1;weld 0", 3, 3, 3, 3);
        // CELL 0 anew: 30 + 20; CELL 1: 60.
        DUE.is("the later one counts", x.welds(0), 3);
        DUE.is("the later one counts", x.welds(1), 10);
        x = ran("fire 1;weld 1;fire 2;weld 1;weld 0", 3, 3, 3, 3);
        DUE.is("the latest heat must be at one of them", x.came(11), 1);
        DUE.is("only one weld", x.came(9), 2);
        DUE.is("70", x.welds(0), 7);
        DUE.is("70", x.welds(1), 10);
        x.terms(0, 4);
        x.terms(4, 50);
        x.run(0);
        DUE.is("100 at most", x.welds(0), 1);
        DUE.is("100 at most", x.welds(1), 1);
        x.terms(0, 1);
        x.terms(4, 0);
        x.run(0);
        DUE.is("30", x.welds(0), 3);
        DUE.is("30", x.welds(1), 10);
        x = new HotIron();
        Due.bar(x, 3, 3, 3, 3, 3);
        x.terms(4, 1);
        Due.recipe(x, "fire 1;weld 0;weld 1;fire 3;weld 2;weld 3");
        x.run(0);
        DUE.is("four welds", x.came(9), 15);
        // 51/100 * 41/100, twice.
        DUE.is("four welds", x.welds(0), 4372281);
        DUE.is("four welds", x.welds(1), 100000000);
    }

    private static void dudsWithoutCell() {
        HotIron x = ran("fire 4;fire 0-1;strike 0 to 2;strike 0 to 0;strike 3 to 4;strike 4 to 3;strike 0 to 0-1;"
                + "shoulder 3;shoulder 4;shoulder 0-1;punch 4;punch 0-1;weld 3;weld 4;weld 0-1", 3, 3, 3, 3);
        came(x, "duds", 0, 0, 0, 15, 0, 0, -1, 0, 0, 0, 0, 0);
        x = ran("fire 3;fire 4;strike 3 to 4;shoulder 3;weld 3;strike 3 to 2;go 7 if left=2;fire 0", 3, 3, 3, 3);
        came(x, "they use no blow", 2, 1, 1, 4, 0, 2, -1, 0, 0, 0, 4, 0);
        x = ran("fire 3;fire 9;punch 2;punch 2", 3, 3, 3, 3);
        DUE.is("a dud of a fire leaves what was hot", x.came(8), 4);
    }

    private static void tests() {
        so("1=1", true);
        so("1=2", false);
        so("1<2", true);
        so("2<2", false);
        so("3>2", true);
        so("2>2", false);
        so("not 1=2", true);
        so("not not 1=1", true);
        so("not 1=1 or 1=1", true);
        so("not(1=1 or 1=1)", false);
        so("1=1 or 1=2 and 1=2", true);
        so("(1=1 or 1=2) and 1=2", false);
        so("1=2 and 1=1 or 1=1", true);
        so("1=2 or 1=2 or 1=1", true);
        so("1=1 and 1=1 and 1=2", false);
        so("5-2-1=2", true);
        so("5-[2-1]=4", true);
        so("1-2<0", true);
        so("cells=4", true);
        so("left=2", true);
        so("heats=1", true);
        so("struck=1", true);
        so("iron(0)=2", true);
        so("iron(iron(0))=4", true);
        so("iron(4)=0", true);
        so("iron(0-1)=0", true);
        so("hot(0)+hot(1)=2", true);
        so("hot(2)+hot(3)+hot(4)+hot(0-1)=0", true);
        so("iron(0)+iron(1)+iron(2)+iron(3)=6+5", true);
    }

    /** Whether a test is so behind a HEAT at CELL 0 and a MOVE from CELL 0 to CELL 1 of 4, 3, 4, 1. */
    private static void so(String test, boolean due) {
        HotIron x = ran("fire 0;strike 0 to 1;punch 0 if " + test, 4, 3, 4, 1);
        DUE.is("\"" + test + "\"", x.came(1), due ? 2 : 1);
        HotIron y = ran("strike 0 to 1;fire 0 if heats=0 and struck=0 and left=0 and hot(0)=0", 3, 3, 3, 3);
        DUE.is("ahead of any", y.came(0), 1);
    }

    private static void ways() {
        HotIron x = new HotIron();
        Due.recipe(x, "go 0");
        DUE.is("a hundred steps", x.run(0), 100);
        Due.recipe(x, "go 2 if 1=2;go 4;fire 0;fire 0");
        DUE.is("passed over, then out", x.run(1), 2);
        DUE.is("no heat", x.came(0), 0);
        Due.recipe(x, "fire 0;go 0 if heats<3");
        DUE.is("back twice", x.run(2), 6);
        DUE.is("three heats", x.came(0), 3);
        Due.recipe(x, "fire 0;fire 0 if 1=2;go 15;fire 0");
        DUE.is("behind the last", x.run(3), 3);
        Due.recipe(x, "fire 0;go 0");
        DUE.is("a hundred", x.run(4), 100);
        DUE.is("fifty heats", x.came(0), 50);
        Due.recipe(x, "fire 0;fire 3;fire 0");
        DUE.is("to the end", x.run(5), 3);
        x.tongs(1 << 3);
        x.bar(3, 2);
        DUE.is("held by CELL 2, then by CELLS 0 and 1", x.run(5), 3);
        x.bar(1, 2);
        DUE.is("dropped", x.run(5), 2);
        DUE.is("dropped at", x.came(6), 1);
    }

    private static void costs() {
        HotIron x = new HotIron();
        Due.recipe(x, "fire 0;strike 0 to 1;strike 3 to 2;strike 0 to 2;punch 0;fire 0;shoulder 0");
        x.run(0);
        DUE.is("coal", x.came(12), 6);
        DUE.is("minutes", x.came(13), 13);
        x.terms(1, 100);
        x.terms(2, 60);
        x.terms(3, 7);
        DUE.is("coal of that run", x.came(12), 6);
        DUE.is("minutes of that run", x.came(13), 13);
        x.run(0);
        DUE.is("coal now", x.came(12), 200);
        DUE.is("minutes now", x.came(13), 141);
    }

    private static void theLatest() {
        HotIron x = new HotIron();
        Due.recipe(x, "fire 0");
        Due.recipe(x, "fire 0;fire 0");
        x.run(1);
        DUE.is("the bar is as it was", x.count(3), 12);
        x.change(1, 0);
        x.made(3333, 0, 0);
        x.twelve(0, 50, 5, 0);
        x.twelve(0, 50, 5, 1);
        x.run(5);
        DUE.is("the latest stays", x.came(0), 2);
        x.wide(3);
        DUE.is("with its own cells", x.iron(3), 3);
        DUE.is("iron", Due.irons(x, 4), 1333);
        x.run(0);
        DUE.is("with its own cells", x.iron(3), -1);
        DUE.is("a new one", x.came(0), 1);
    }
}
