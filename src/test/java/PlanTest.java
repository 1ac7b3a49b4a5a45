/** Promises 17 to 20 and 26: heats, plan, reached, even, striker. */
public final class PlanTest {
    private static final Due DUE = new Due("PlanTest");

    public static void main(String[] args) {
        shortPlans();
        firstCells();
        firstRows();
        withoutLoss();
        tongs();
        sixHeats();
        reached();
        even();
        striker();
        DUE.close();
    }

    private static HotIron of(int blows, int[] bar, int[] shape) {
        HotIron x = new HotIron();
        Due.bar(x, bar);
        Due.shape(x, shape);
        x.terms(0, blows);
        return x;
    }

    private static int[] row(int... iron) {
        return iron;
    }

    private static void shortPlans() {
        HotIron x = new HotIron();
        DUE.is("it is that", x.heats(), 0);
        DUE.is("plan(0, NONE) of none", x.plan(0, -1), -1);
        DUE.is("plan(0, 0) of none", x.plan(0, 0), -1);
        x.shape(0, 4);
        DUE.is("more iron than there is", x.heats(), -1);
        DUE.is("plan(0, NONE) without", x.plan(0, -1), -1);
        x = of(1, row(3, 3, 3, 3), row(3, 2, 3, 3));
        DUE.is("one heat, no move", x.heats(), 1);
        // At CELL 0 with a MOVE from CELL 1 to it.
        DUE.is("the first cell", x.plan(0, -1), 0);
        DUE.is("rows", Due.planned(x, 0, 4), 3233);
        DUE.is("plan(0, 4)", x.plan(0, 4), -1);
        DUE.is("plan(0, -2)", x.plan(0, -2), -1);
        DUE.is("plan(1, 0)", x.plan(1, 0), -1);
        DUE.is("plan(1, NONE)", x.plan(1, -1), -1);
        DUE.is("plan(-1, NONE)", x.plan(-1, -1), -1);
        x.shape(1, 3);
        DUE.is("a new shape", x.heats(), 0);
        DUE.is("a new plan", x.plan(0, -1), -1);
        x.shape(3, 2);
        DUE.is("at the other end", x.heats(), 1);
        // At CELL 2, and a MOVE from CELL 3 to it.
        DUE.is("at the other end", x.plan(0, -1), 2);
        x.bar(0, 4);
        DUE.is("a new bar", x.heats(), 2);
        DUE.is("a new bar", x.plan(0, -1), 0);
        // CELL 1 gets one first, then loses it, while one goes from CELL 3 to CELL 2.
        DUE.is("a new bar", x.plan(1, -1), 1);
        DUE.is("a new bar", Due.planned(x, 0, 4), 3423);
        DUE.is("a new bar", Due.planned(x, 1, 4), 3332);
        x.wide(3);
        DUE.is("a new width", x.heats(), 0);
        x.bar(1, 4);
        // At CELL 1 all are HOT, so it is led away at CELL 0.
        DUE.is("three cells", x.heats(), 1);
        DUE.is("three cells", x.plan(0, -1), 0);
        x.terms(0, 1);
        DUE.is("one blow is enough", x.heats(), 1);
    }

    private static void firstCells() {
        HotIron x = of(3, row(4, 4, 4, 4), row(3, 4, 4, 3));
        DUE.is("two heats", x.heats(), 2);
        DUE.is("cell of 0", x.plan(0, -1), 0);
        // Not at CELL 0, too: nothing can be led from CELL 3 there.
        DUE.is("cell of 1", x.plan(1, -1), 1);
        DUE.is("row of 1", Due.planned(x, 1, 4), 3443);
    }

    private static void firstRows() {
        HotIron x = of(1, row(3, 3, 3, 3), row(1, 3, 3, 3));
        DUE.is("two heats", x.heats(), 2);
        DUE.is("cells", x.plan(0, -1) * 10 + x.plan(1, -1), 0);
        // Not 1, 4, 3, 3, since no SCALE would be lost then.
        DUE.is("row of 0", Due.planned(x, 0, 4), 2243);
        DUE.is("row of 1", Due.planned(x, 1, 4), 1333);
        x = of(2, row(3, 3, 3, 3), row(1, 3, 3, 3));
        DUE.is("row of 0", Due.planned(x, 0, 4), 2153);
        DUE.is("row of 1", Due.planned(x, 1, 4), 1333);
    }

    private static void withoutLoss() {
        HotIron x = of(1, row(1, 3, 3, 3), row(2, 2, 3, 3));
        DUE.is("one that has one loses none", x.heats(), 1);
        DUE.is("cell", x.plan(0, -1), 0);
        x = of(1, row(1, 3, 3, 3), row(3, 1, 3, 3));
        DUE.is("two with one blow lose one", x.heats(), -1);
        x = of(2, row(1, 3, 3, 3), row(3, 1, 3, 3));
        DUE.is("one with two blows", x.heats(), 1);
    }

    private static void tongs() {
        HotIron x = of(3, row(3, 3, 3, 3), row(2, 3, 3, 3));
        x.tongs(1 << 2);
        DUE.is("nothing held", x.heats(), -1);
        DUE.is("nothing reached", x.reached(1), 0);
        x.bar(3, 2);
        x.shape(3, 2);
        DUE.is("CELL 3 held", x.heats(), 1);
        DUE.is("plan", x.plan(0, -1), 0);
        x.tongs(1 << 9);
        DUE.is("nothing held now", x.heats(), -1);
        DUE.is("nothing planned now", x.plan(0, -1), -1);
        HotIron y = of(3, row(3, 3, 3), row(3, 2, 3));
        DUE.is("at CELL 1 nothing is cold", y.plan(0, -1), 0);
        y = of(1, row(9, 3, 9), row(9, 2, 9));
        DUE.is("not at CELL 1, but by a MOVE", y.heats(), 1);
        DUE.is("row", Due.planned(y, 0, 3), 929);
    }

    private static void sixHeats() {
        HotIron x = of(1, row(9, 3, 3, 3), row(3, 3, 3, 3));
        DUE.is("six are enough", x.heats(), 6);
        // CELL 1 takes as much as it can give back, one by each HEAT.
        int[] rows = {7433, 5533, 3633, 3533, 3433, 3333};
        for (int i = 0; i < 6; i++) {
            DUE.is("cell of " + i, x.plan(i, -1), 0);
            DUE.is("row of " + i, Due.planned(x, i, 4), rows[i]);
        }
        DUE.is("plan(6, NONE)", x.plan(6, -1), -1);
        DUE.is("plan(6, 0)", x.plan(6, 0), -1);
        x.shape(0, 2);
        DUE.is("seven are too many", x.heats(), -1);
        DUE.is("no plan", x.plan(0, -1), -1);
        x = of(4, row(9, 9, 9, 9, 9), row(9, 9, 9, 9, 3));
        DUE.is("five cells", x.heats(), 6);
    }

    private static void reached() {
        HotIron x = new HotIron();
        DUE.is("reached(-1)", x.reached(-1), -1);
        DUE.is("reached(7)", x.reached(7), -1);
        DUE.is("reached(0)", x.reached(0), 1);
        x.wide(3);
        x.terms(0, 1);
        // At CELL 0 from 2, 3, 3: itself, 1 4 3, 3 2 3, 2 2 4, 2 4 2; at CELL 2 the same mirrored: 332, 341, 323, 422, 242.
        DUE.is("reached(1)", x.reached(1), 8);
        Due.bar(x, 1, 1, 1);
        DUE.is("nothing to move, nothing to lose", x.reached(6), 1);
        Due.bar(x, 9, 9, 9);
        // 8 9 9, 9 8 9, 9 9 8: a full CELL takes no more.
        DUE.is("reached(1) of nines", x.reached(1), 3);
        x.terms(0, 4);
        // More BLOWS only lead the one gap about.
        DUE.is("reached(1) of nines with four", x.reached(1), 3);
    }

    private static void even() {
        HotIron x = new HotIron();
        DUE.is("it is even", x.even(), 3);
        x.shape(0, 2);
        DUE.is("even", x.even(), 3);
        x.shape(0, 4);
        DUE.is("even", x.even(), 4);
        Due.shape(x, 9, 9, 9, 8);
        DUE.is("even", x.even(), 9);
        x.tongs(1 << 8);
        DUE.is("none that is held", x.even(), -1);
        Due.shape(x, 8, 8, 8, 7);
        DUE.is("held by 8", x.even(), 8);
        x.bar(0, 9);
        DUE.is("the bar does not matter", x.even(), 8);
        x.wide(5);
        x.tongs(1022);
        x.terms(0, 1);
        Due.shape(x, 9, 1, 1, 1, 9);
        DUE.is("not within six heats", x.even(), -1);
    }

    private static void striker() {
        HotIron x = new HotIron();
        DUE.is("none shorter than none", x.striker(), 0);
        x.shape(0, 4);
        DUE.is("without a plan", x.striker(), -1);
        x = of(1, row(5, 3, 3, 3), row(3, 3, 4, 3));
        DUE.is("one blow", x.heats(), -1);
        DUE.is("without the plan as it stands", x.striker(), -1);
        x.terms(0, 2);
        DUE.is("two blows", x.heats(), 1);
        DUE.is("three are no better", x.striker(), 0);
        x = of(3, row(3, 3, 3, 3, 3), row(9, 1, 1, 1, 1));
        DUE.is("three blows", x.heats(), 5);
        DUE.is("four blows", x.striker(), 1);
        x.terms(0, 4);
        DUE.is("four blows", x.heats(), 4);
        DUE.is("five blows", x.striker(), 1);
    }
}
