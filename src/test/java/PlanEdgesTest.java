/** The edges that Terms IV (PLANS, REACHED, EVEN) and promises 17 to 20 and 26 name: heats, plan, reached, even, striker. */
public final class PlanEdgesTest {
    private static final Due DUE = new Due("PlanEdgesTest");
    private static final Edge EDGE = new Edge(DUE);
    private static final int MIN = Integer.MIN_VALUE;
    private static final int MAX = Integer.MAX_VALUE;

    public static void main(String[] args) {
        noHeat();
        sixHeatsAndSeven();
        moreIron();
        scaleAtOne();
        scaleOfEachRow();
        blowsOfAHeat();
        noMoveFromOneOrToNine();
        nothingHeld();
        threeCells();
        planNumbers();
        planCells();
        planWithout();
        planOfWhatStands();
        firstCellsThenRows();
        reachedNumbers();
        reachedOfEach();
        reachedOfLeastAndMost();
        reachedWithout();
        evenEnds();
        evenBySixHeats();
        evenWithout();
        strikerEnds();
        strikerWithout();
        DUE.close();
    }

    private static int[] row(int... iron) {
        return iron;
    }

    private static HotIron of(int blows, int[] bar, int[] shape) {
        HotIron x = new HotIron();
        Due.bar(x, bar);
        Due.shape(x, shape);
        x.terms(0, blows);
        return x;
    }

    /** "(0: it is that)": nothing need be held for that. */
    private static void noHeat() {
        EDGE.asked(new HotIron(), "heats() at first", x -> x.heats(), 0);
        for (int n = 3; n <= 5; n++) {
            HotIron x = new HotIron();
            x.wide(n);
            x.tongs(1 << 9);
            DUE.is("heats() of " + n, x.heats(), 0);
            DUE.is("reached(0) of " + n, x.reached(0), 1);
            DUE.is("reached(1) of " + n, x.reached(1), 0);
            DUE.is("striker() of " + n, x.striker(), 0);
            DUE.is("even() of " + n, x.even(), 3);
            DUE.is("plan(0, NONE) of " + n, x.plan(0, -1), -1);
        }
    }

    /** "6 at most"; "NONE (none with 6, too)": one IRON more to lose is one HEAT more. */
    private static void sixHeatsAndSeven() {
        for (int n = 3; n <= 5; n++) {
            for (int blows = 1; blows <= 4; blows++) {
                for (int lost = 1; lost <= 8; lost++) {
                    HotIron x = new HotIron();
                    x.wide(n);
                    x.terms(0, blows);
                    x.bar(n - 1, 9);
                    x.shape(n - 1, 9 - lost);
                    int due = lost <= 6 ? lost : -1;
                    DUE.is("heats() of " + n + " by " + blows + " for " + lost, x.heats(), due);
                    DUE.is("plan of the last HEAT", x.plan(lost - 1, n - 1), due < 0 ? -1 : 9 - lost);
                    DUE.is("plan behind the last HEAT", x.plan(lost, -1), -1);
                    DUE.is("striker()", x.striker(), due < 0 ? -1 : 0);
                }
            }
        }
        HotIron x = of(1, row(9, 9, 9, 9), row(8, 8, 7, 7));
        DUE.is("six from all four CELLS", x.heats(), 6);
        x.shape(0, 7);
        DUE.is("seven from all four CELLS", x.heats(), -1);
        EDGE.asked(x, "heats() without", y -> y.heats(), -1);
    }

    /** No IRON comes from elsewhere. */
    private static void moreIron() {
        DUE.is("one more", of(4, row(3, 3, 3, 3), row(3, 3, 3, 4)).heats(), -1);
        DUE.is("all of it", of(4, row(1, 1, 1, 1), row(9, 9, 9, 9)).heats(), -1);
        DUE.is("as much, at once", of(4, row(3, 3, 3, 3), row(4, 2, 3, 3)).heats(), -1);
        DUE.is("as much, by a CELL that loses none", of(4, row(3, 1, 5, 3), row(2, 2, 5, 3)).heats(), 1);
        EDGE.asked(of(4, row(3, 3, 3, 3), row(3, 3, 3, 4)), "heats() of more", x -> x.heats(), -1);
    }

    /** "p loses one IRON as SCALE, if it has more than one": by HEATS at a CELL of one nothing is lost. */
    private static void scaleAtOne() {
        for (int n = 3; n <= 5; n++) {
            HotIron x = new HotIron();
            x.wide(n);
            for (int cell = 0; cell < n; cell++) {
                x.bar(cell, 1);
            }
            for (int heats = 0; heats <= 6; heats++) {
                DUE.is("all of one, reached(" + heats + ")", x.reached(heats), 1);
            }
            DUE.is("no way to more", x.heats(), -1);
        }
        DUE.is("two lose one", of(1, row(2, 1, 1), row(1, 1, 1)).heats(), 1);
        DUE.is("one does not come down to none", of(1, row(2, 2, 2), row(1, 1, 1)).heats(), 3);
    }

    /** From every row of three CELLS, and from some of four and five, one HEAT leads to the row with one IRON less at its CELL. */
    private static void scaleOfEachRow() {
        int[] strides = {1, 7, 67};
        for (int n = 3; n <= 5; n++) {
            for (int number = 0; number < Math.pow(9, n); number += strides[n - 3]) {
                int[] bar = new int[n];
                int rest = number;
                for (int cell = 0; cell < n; cell++) {
                    bar[cell] = 1 + rest % 9;
                    rest /= 9;
                }
                lessAtACell(bar);
            }
        }
    }

    private static void lessAtACell(int[] bar) {
        HotIron x = of(1, bar, bar);
        for (int cell = 0; cell < bar.length; cell++) {
            // At the middle of three CELLS no HEAT can be done.
            boolean middle = bar.length == 3 && cell == 1;
            if (bar[cell] > 1 && !middle) {
                x.shape(cell, bar[cell] - 1);
                DUE.is("heats() of " + Look.row(bar.length, c -> bar[c]) + "for CELL " + cell, x.heats(), 1);
                x.shape(cell, bar[cell]);
            }
        }
    }

    /** "at most BLOWS MOVES in each": as many as there are, and none more. */
    private static void blowsOfAHeat() {
        for (int moves = 1; moves <= 4; moves++) {
            for (int blows = 1; blows <= 4; blows++) {
                HotIron x = of(blows, row(2 + moves, 1, 1, 1), row(1, 1 + moves, 1, 1));
                // What is left for a second HEAT comes there at a CELL of one, which loses nothing.
                int due = (moves + blows - 1) / blows;
                DUE.is(moves + " MOVES by " + blows, x.heats(), due);
                int withOneMore = (moves + blows) / (blows + 1);
                DUE.is(moves + " MOVES by one more than " + blows, x.striker(), due - withOneMore);
            }
        }
        DUE.is("fewer MOVES than BLOWS", of(4, row(3, 3, 3, 3), row(2, 3, 3, 3)).heats(), 1);
    }

    /** A MOVE from a CELL of one or to a CELL of nine is none. */
    private static void noMoveFromOneOrToNine() {
        DUE.is("down to one", of(1, row(3, 2, 3, 3), row(2, 1, 4, 3)).heats(), 1);
        DUE.is("up to nine", of(1, row(3, 3, 8, 3), row(2, 2, 9, 3)).heats(), 1);
        HotIron x = of(4, row(9, 9, 9, 9), row(9, 9, 9, 8));
        DUE.is("of nines one is lost", x.heats(), 1);
        // Only the CELL of the HEAT has room, so the gap is led from it.
        DUE.is("reached(1) of nines", x.reached(1), 4);
    }

    /** "by HEATS (each of which can be done)". */
    private static void nothingHeld() {
        for (int number = 1; number <= 9; number++) {
            HotIron x = of(3, row(5, 5, 5, number), row(5, 4, 5, number));
            x.tongs(1 << number);
            DUE.is("held by " + number, x.heats(), 1);
            x.tongs(1022 - (1 << number) - (number == 5 ? 0 : 1 << 5));
            DUE.is("not held by others than " + number, x.heats(), -1);
            DUE.is("none reached", x.reached(1), 0);
        }
        HotIron x = of(1, row(2, 4, 4, 2), row(1, 3, 4, 2));
        x.tongs(1 << 2);
        // The first HEAT at CELL 0 or 1 is held by CELL 3, and that stays.
        DUE.is("held by CELL 3 twice", x.heats(), 2);
        x.tongs(1 << 4);
        // At CELL 0 CELL 2 holds; all the while it has 4.
        DUE.is("held by CELL 2 twice", x.heats(), 2);
        DUE.is("at CELL 0", x.plan(0, -1), 0);
        DUE.is("at CELL 0 again", x.plan(1, -1), 0);
    }

    /** At the middle of three CELLS no HEAT can be done. */
    private static void threeCells() {
        HotIron x = of(1, row(9, 5, 9), row(9, 4, 9));
        DUE.is("from the side", x.heats(), 1);
        DUE.is("at CELL 0", x.plan(0, -1), 0);
        DUE.is("row", Due.planned(x, 0, 3), 949);
        x = of(1, row(1, 5, 1), row(1, 4, 1));
        // At either side nothing is lost until one is led there; then it is lost in the next HEAT.
        DUE.is("no SCALE of its own", x.heats(), 2);
        DUE.is("row", Due.planned(x, 0, 3), 241);
        DUE.is("row", Due.planned(x, 1, 3), 141);
    }

    /** "the i-th HEAT of that PLAN": from 0 on. */
    private static void planNumbers() {
        int[] none = {MIN, -2, -1, 2, 3, 5, 6, 7, MAX};
        for (int i : none) {
            EDGE.asked(of(3, row(3, 3, 3, 3), row(1, 3, 3, 3)), "plan(" + i + ", NONE)", x -> x.plan(i, -1), -1);
            EDGE.asked(of(3, row(3, 3, 3, 3), row(1, 3, 3, 3)), "plan(" + i + ", 0)", x -> x.plan(i, 0), -1);
        }
        EDGE.asked(of(3, row(3, 3, 3, 3), row(1, 3, 3, 3)), "plan(0, NONE)", x -> x.plan(0, -1), 0);
        EDGE.asked(of(3, row(3, 3, 3, 3), row(1, 3, 3, 3)), "plan(1, NONE)", x -> x.plan(1, -1), 0);
        EDGE.asked(of(3, row(3, 3, 3, 3), row(1, 3, 3, 3)), "plan(1, 0)", x -> x.plan(1, 0), 1);
        HotIron x = of(1, row(3, 3, 3, 9), row(3, 3, 3, 3));
        DUE.is("plan(5, 3) of six", x.plan(5, 3), 3);
        DUE.is("plan(6, 3) of six", x.plan(6, 3), -1);
        DUE.is("plan(6, NONE) of six", x.plan(6, -1), -1);
    }

    /** "(cell NONE), IRON of a CELL behind it. NONE": for each n the last CELL and the first that is none. */
    private static void planCells() {
        for (int n = 3; n <= 5; n++) {
            int[] none = {MIN, -2, n, n + 1, 5, MAX};
            for (int cell : none) {
                HotIron x = new HotIron();
                x.wide(n);
                x.shape(0, 2);
                EDGE.asked(x, "plan(0, " + cell + ") of " + n, y -> y.plan(0, cell), -1);
            }
            HotIron x = new HotIron();
            x.wide(n);
            x.shape(0, 2);
            for (int cell = 0; cell < n; cell++) {
                DUE.is("plan(0, " + cell + ") of " + n, x.plan(0, cell), cell == 0 ? 2 : 3);
            }
            DUE.is("plan(0, NONE) of " + n, x.plan(0, -1), 0);
        }
    }

    private static void planWithout() {
        int[] cells = {-1, 0, 3};
        for (int cell : cells) {
            EDGE.asked(new HotIron(), "plan(0, " + cell + ") of no HEAT", x -> x.plan(0, cell), -1);
            HotIron more = of(3, row(3, 3, 3, 3), row(3, 3, 3, 4));
            EDGE.asked(more, "plan(0, " + cell + ") without", x -> x.plan(0, cell), -1);
            HotIron seven = of(3, row(3, 3, 3, 9), row(3, 3, 3, 2));
            EDGE.asked(seven, "plan(0, " + cell + ") of seven", x -> x.plan(0, cell), -1);
        }
    }

    /** Each call is answered by what stands then: BAR, SHAPE, TONGS, BLOWS, CELLS, and what was gone BACK to. */
    private static void planOfWhatStands() {
        HotIron x = new HotIron();
        x.shape(0, 2);
        DUE.is("one", x.heats() * 100 + x.plan(0, 0), 102);
        x.image(0);
        x.bar(0, 4);
        DUE.is("another BAR", x.heats(), 2);
        DUE.is("another BAR's plan", x.plan(1, 0), 2);
        x.shape(0, 3);
        DUE.is("another SHAPE", x.heats() * 100 + x.plan(0, 0), 103);
        x.tongs(1 << 8);
        DUE.is("other TONGS", x.heats() * 100 + x.plan(0, 0), -101);
        DUE.is("reached(1)", x.reached(1), 0);
        DUE.is("even()", x.even(), 3);
        x.back(0);
        DUE.is("BACK", x.heats() * 100 + x.plan(0, 0), 102);
        x.feed(9, 3, 3, 3, 0);
        x.end(16);
        x.row();
        DUE.is("a ROW", x.heats(), -1);
        x.wide(3);
        DUE.is("three CELLS", x.heats(), 0);
        DUE.is("three CELLS' plan", x.plan(0, 0), -1);
        x.back(0);
        DUE.is("BACK again", x.heats() * 100 + x.plan(0, 0), 102);
        x.bar(0, 9);
        x.shape(0, 1);
        x.shape(1, 9);
        x.terms(0, 1);
        int byOne = x.reached(1);
        x.terms(0, 2);
        DUE.is("more BLOWS reach more", x.reached(1) > byOne ? 1 : 0, 1);
        x.terms(0, 1);
        DUE.is("as before", x.reached(1), byOne);
    }

    /** "of these the first by the CELLS at which they are, as rows; in it .. the first as rows with which it can still be done". */
    private static void firstCellsThenRows() {
        HotIron x = of(1, row(3, 3, 3, 3), row(3, 3, 2, 3));
        // At CELL 1, and what it lost comes from CELL 2; at CELL 0 nothing comes that far by one MOVE.
        DUE.is("CELL 1 ahead of CELL 2", x.plan(0, -1), 1);
        x = of(2, row(3, 3, 3, 3), row(3, 3, 2, 3));
        DUE.is("CELL 0 by two MOVES", x.plan(0, -1), 0);
        x = of(1, row(5, 5, 5, 5), row(4, 5, 5, 4));
        // Not 0 0: CELL 3 stays; 0 1, if CELL 1 has one more by then, which it loses while CELL 3 gives one to CELL 2.
        DUE.is("CELLS as a row", x.plan(0, -1) * 10 + x.plan(1, -1), 1);
        DUE.is("the row behind the first", Due.planned(x, 0, 4), 4645);
        DUE.is("the row behind the second", Due.planned(x, 1, 4), 4554);
        x = of(4, row(3, 3, 3, 3, 3), row(3, 3, 3, 3, 2));
        DUE.is("at CELL 2 or behind it alone CELL 4 is struck", x.plan(0, -1), 2);
    }

    /** "by just so many HEATS (0 .. 6). NONE". */
    private static void reachedNumbers() {
        int[] none = {MIN, -2, -1, 7, 8, MAX};
        for (int heats : none) {
            EDGE.asked(Look.busy(), "reached(" + heats + ")", x -> x.reached(heats), -1);
        }
        EDGE.asked(Look.busy(), "reached(0)", x -> x.reached(0), 1);
        HotIron x = of(1, row(1, 1, 9), row(1, 1, 3));
        DUE.is("the SHAPE is among those of six", x.heats(), 6);
        DUE.is("reached(6)", x.reached(6) > 0 ? 1 : 0, 1);
        // 1 1 2: at CELL 0 it stays, or one comes from CELL 2 to CELL 1; at CELL 2 it is lost.
        x = of(1, row(1, 1, 2), row(1, 1, 1));
        DUE.is("reached(1)", x.reached(1), 3);
        // 1 1 2, 1 2 1, 2 1 1, 1 1 1.
        DUE.is("reached(2)", x.reached(2), 4);
        DUE.is("reached(6)", x.reached(6), 4);
    }

    /** A BAR told by its digits, for the plain Smith and for the object. */
    private static HotIron alike(Smith smith, String bar, int blows) {
        smith.cells = bar.length();
        smith.bar = bar;
        smith.terms[0] = blows;
        HotIron x = new HotIron();
        x.wide(bar.length());
        x.terms(0, blows);
        for (int cell = 0; cell < bar.length(); cell++) {
            x.bar(cell, bar.charAt(cell) - '0');
        }
        return x;
    }

    /** Of each number of HEATS, held against the plain Smith. */
    private static void reachedOfEach() {
        String[] bars = {"113", "999", "191", "345", "2222", "1913"};
        for (String bar : bars) {
            Smith smith = new Smith();
            HotIron x = alike(smith, bar, 1);
            for (int heats = 6; heats >= 0; heats--) {
                DUE.is("reached(" + heats + ") of " + bar, x.reached(heats), smith.reached(heats));
            }
        }
    }

    /** Rows of the least and of the most IRON there is, for each n: what they lead to, and a PLAN to each row behind a HEAT. */
    private static void reachedOfLeastAndMost() {
        for (int n = 3; n <= 5; n++) {
            for (int bits = 0; bits < 1 << n; bits++) {
                StringBuilder low = new StringBuilder();
                StringBuilder high = new StringBuilder();
                for (int cell = 0; cell < n; cell++) {
                    low.append(1 + (bits >> cell & 1));
                    high.append(8 + (bits >> cell & 1));
                }
                leads(low.toString());
                leads(high.toString());
            }
        }
    }

    private static void leads(String bar) {
        Smith smith = new Smith();
        HotIron x = alike(smith, bar, 2);
        DUE.is("reached(1) of " + bar, x.reached(1), smith.reached(1));
        DUE.is("reached(2) of " + bar, x.reached(2), smith.reached(2));
        for (int p = 0; p < bar.length(); p++) {
            for (String row : smith.behindHeat(bar, p, 2)) {
                HotIron y = alike(smith, bar, 2);
                for (int cell = 0; cell < row.length(); cell++) {
                    y.shape(cell, row.charAt(cell) - '0');
                }
                DUE.is("heats() of " + bar + " to " + row, y.heats(), row.equals(bar) ? 0 : 1);
            }
        }
    }

    /** Just so many, not at most so many; none where no HEAT can be done. */
    private static void reachedWithout() {
        HotIron x = of(1, row(3, 3, 3), row(3, 3, 3));
        x.tongs(1 << 4);
        DUE.is("reached(0)", x.reached(0), 1);
        DUE.is("reached(1)", x.reached(1), 0);
        DUE.is("reached(6)", x.reached(6), 0);
        x = of(1, row(2, 2, 2, 2), row(2, 2, 2, 2));
        x.tongs(1 << 2);
        DUE.is("the BAR is not among those of one HEAT", x.heats(), 0);
        // At CELL 0 1222 2122 1132 1312, at CELL 1 2122 1222 2212 2113 2131, at CELLS 2 and 3 the same mirrored.
        DUE.is("reached(1)", x.reached(1), 10);
    }

    /** "the least IRON, of all CELLS alike": from 1 to 9. */
    private static void evenEnds() {
        for (int n = 3; n <= 5; n++) {
            for (int iron = 1; iron <= 9; iron++) {
                HotIron x = new HotIron();
                x.wide(n);
                for (int cell = 0; cell < n; cell++) {
                    x.shape(cell, iron);
                }
                DUE.is("even() of " + n + " times " + iron, x.even(), iron);
                x.shape(0, iron == 1 ? 2 : iron - 1);
                DUE.is("even() of one less, or of a two", x.even(), iron == 1 ? 2 : iron);
            }
        }
        EDGE.asked(new HotIron(), "even()", x -> x.even(), 3);
        EDGE.asked(Look.busy(), "even() leaves the BAR", x -> x.even(), Look.busy().even());
    }

    /** From a BAR of six HEATS there is a PLAN, from one of seven there is none. */
    private static void evenBySixHeats() {
        HotIron x = of(1, row(5, 5, 5), row(1, 3, 9));
        DUE.is("six HEATS from fives", x.heats(), 6);
        DUE.is("even()", x.even(), 5);
        x = of(1, row(7, 7, 7), row(4, 1, 9));
        DUE.is("seven would have to be lost of sevens", x.heats(), -1);
        DUE.is("even()", x.even(), -1);
    }

    private static void evenWithout() {
        HotIron x = of(1, row(3, 3, 3, 3), row(9, 9, 9, 8));
        DUE.is("of nines", x.even(), 9);
        x.tongs(1 << 8);
        EDGE.asked(x, "even() of nines that are not held", y -> y.even(), -1);
        x.shape(3, 9);
        DUE.is("no HEAT, nothing to hold", x.even(), 9);
    }

    /** "By how many HEATS the PLAN would be shorter with one BLOW more in each": at most BLOWS, too. */
    private static void strikerEnds() {
        EDGE.asked(new HotIron(), "striker() of no HEAT", x -> x.striker(), 0);
        HotIron x = of(4, row(7, 1, 1, 1), row(1, 6, 1, 1));
        DUE.is("five MOVES by four", x.heats(), 2);
        EDGE.asked(x, "striker() by a fifth BLOW", y -> y.striker(), 1);
        DUE.is("BLOWS stay", x.heats(), 2);
        x = of(4, row(8, 1, 1, 1), row(1, 7, 1, 1));
        DUE.is("six MOVES by four or by five", x.striker(), 0);
        x = of(1, row(8, 1, 1, 1), row(1, 7, 1, 1));
        DUE.is("six MOVES by one or by two", x.heats() * 10 + x.striker(), 63);
    }

    /** "NONE (without one of both PLANS)". */
    private static void strikerWithout() {
        HotIron x = of(4, row(3, 3, 3, 3), row(3, 3, 3, 4));
        EDGE.asked(x, "striker() without both", y -> y.striker(), -1);
        x = of(1, row(9, 1, 1, 1), row(1, 8, 1, 1));
        DUE.is("seven MOVES by one", x.heats(), -1);
        EDGE.asked(x, "striker() without the first", y -> y.striker(), -1);
        x.terms(0, 2);
        DUE.is("seven MOVES by two", x.heats(), 4);
        DUE.is("by three", x.striker(), 1);
    }
}
