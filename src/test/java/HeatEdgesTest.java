/** The edges that Terms II name: when a HEAT can be done, what is HOT, SCALE, and BLOWS that MOVE, are COLD or DUDS, FOLDS. */
public final class HeatEdgesTest {
    private static final Due DUE = new Due("HeatEdgesTest");

    public static void main(String[] args) {
        heatNeedsAColdCellHeld();
        heatOfThreeCells();
        heatByIronAsItIsThen();
        whatIsHot();
        latestHeatIsHot();
        scaleAboveOne();
        blowsAsTold();
        blowsNotAdded();
        blowNeedsOneHot();
        blowNeedsTwoIron();
        blowNeedsRoom();
        blowNeedsNoShoulder();
        dudUsesABlow();
        coldAheadOfDud();
        coldLeavesAll();
        foldsOfMoves();
        foldsOfMovesAlone();
        DUE.close();
    }

    private static HotIron ran(int blows, String text, int... iron) {
        HotIron x = new HotIron();
        Due.bar(x, iron);
        x.terms(0, blows);
        DUE.is("recipe() of " + text, Due.recipe(x, text), 0);
        x.run(0);
        return x;
    }

    /** CELL c has c + 2, so that the TONGS can hold just one. */
    private static int[] stairs(int n) {
        int[] iron = new int[n];
        for (int cell = 0; cell < n; cell++) {
            iron[cell] = cell + 2;
        }
        return iron;
    }

    /** "it can be done, if a CELL that is cold then is held by TONGS (by its IRON)": not by one that is HOT. */
    private static void heatNeedsAColdCellHeld() {
        for (int n = 3; n <= 5; n++) {
            for (int p = 0; p < n; p++) {
                for (int held = 0; held < n; held++) {
                    HotIron x = ran(3, "fire " + p, stairs(n));
                    x.tongs(1 << held + 2);
                    boolean done = Math.abs(p - held) > 1;
                    String call = "HEAT at " + p + " of " + n + ", held " + held;
                    DUE.is(call + ": run", x.run(0), 1);
                    DUE.is(call + ": DROPPED", x.came(6), done ? -1 : 0);
                    DUE.is(call + ": HEATS", x.came(0), done ? 1 : 0);
                    DUE.is(call + ": SCALE", x.came(5), done ? 1 : 0);
                    DUE.is(call + ": IRON", x.iron(p), done ? p + 1 : p + 2);
                }
            }
        }
    }

    /** At the middle of three CELLS all are HOT: that HEAT can never be done. */
    private static void heatOfThreeCells() {
        DUE.is("CELL 0", ran(3, "fire 0", 3, 3, 3).came(6), -1);
        DUE.is("CELL 1", ran(3, "fire 1", 3, 3, 3).came(6), 0);
        DUE.is("CELL 2", ran(3, "fire 2", 3, 3, 3).came(6), -1);
        DUE.is("CELL 1 of four", ran(3, "fire 1", 3, 3, 3, 3).came(6), -1);
        DUE.is("CELL 2 of four", ran(3, "fire 2", 3, 3, 3, 3).came(6), -1);
    }

    /** IRON that was moved there ahead of the HEAT counts, not that of the BAR. */
    private static void heatByIronAsItIsThen() {
        HotIron x = ran(1, "fire 2;strike 2 to 3;fire 0", 2, 2, 5, 7);
        x.tongs(1 << 2 | 1 << 8);
        x.run(0);
        DUE.is("held by 8, which came", x.came(0), 2);
        x.tongs(1 << 2 | 1 << 7);
        x.run(0);
        DUE.is("not by 7, which was", x.came(6), 2);
        x.tongs(1 << 2 | 1 << 3);
        x.run(0);
        DUE.is("held by 3, which is left of 5", x.came(0), 2);
    }

    /** "p and the CELLS beside it are HOT, all others cold". */
    private static void whatIsHot() {
        for (int n = 3; n <= 5; n++) {
            for (int p = 0; p < n; p++) {
                if (n == 3 && p == 1) {
                    continue;
                }
                for (int cell = 0; cell < n; cell++) {
                    boolean hot = Math.abs(p - cell) <= 1;
                    HotIron x = ran(1, "fire " + p + ";punch " + cell + ";fire 9 if hot(" + cell + ")=1", stairs(n));
                    String call = "HEAT at " + p + " of " + n + ", CELL " + cell;
                    DUE.is(call + ": COLD", x.came(4), hot ? 0 : 1);
                    DUE.is(call + ": CRACKS", x.came(11), hot ? 0 : 1 << cell);
                    DUE.is(call + ": BLOWS", x.came(1), hot ? 1 : 0);
                    DUE.is(call + ": hot()", x.came(3), hot ? 1 : 0);
                }
            }
        }
    }

    /** "all others cold": those that were HOT by the HEAT ahead of it, too. */
    private static void latestHeatIsHot() {
        HotIron x = ran(4, "fire 0;fire 4;punch 0;punch 1;punch 3;punch 4", 3, 3, 3, 3, 3);
        DUE.is("CRACKS", x.came(11), 3);
        DUE.is("BLOWS", x.came(1), 2);
        x = ran(4, "fire 0;fire 4;fire 9 if hot(0)+hot(1)+hot(2)=0 and hot(3)+hot(4)=2", 3, 3, 3, 3, 3);
        DUE.is("hot()", x.came(3), 1);
    }

    /** "p loses one IRON as SCALE, if it has more than one". */
    private static void scaleAboveOne() {
        for (int n = 3; n <= 5; n++) {
            for (int iron = 1; iron <= 9; iron++) {
                int[] bar = stairs(n);
                bar[0] = iron;
                HotIron x = ran(3, "fire 0", bar);
                DUE.is("IRON of " + iron, x.iron(0), Math.max(1, iron - 1));
                DUE.is("SCALE of " + iron, x.came(5), iron > 1 ? 1 : 0);
                DUE.is("HEATS", x.came(0), 1);
                DUE.is("the one beside it loses none", x.iron(1), 3);
            }
        }
        HotIron x = ran(3, "fire 3;fire 3;fire 3;fire 3", 3, 3, 3, 3);
        DUE.is("down to one", x.iron(3), 1);
        DUE.is("twice alone", x.came(5), 2);
        DUE.is("four HEATS", x.came(0), 4);
    }

    /** "BLOWS are left as told", "if a BLOW is left": for each number of BLOWS the last that is left and the first that is not. */
    private static void blowsAsTold() {
        String strikes = ";strike 1 to 2;strike 2 to 1;strike 1 to 2;strike 2 to 1;strike 1 to 2";
        for (int blows = 1; blows <= 4; blows++) {
            HotIron x = ran(blows, "fire 0" + strikes, 5, 5, 5, 5);
            DUE.is("MOVES by " + blows, x.came(2), blows);
            DUE.is("BLOWS by " + blows, x.came(1), blows);
            DUE.is("COLD by " + blows, x.came(4), 5 - blows);
            DUE.is("DUDS by " + blows, x.came(3), 0);
            DUE.is("left", ran(blows, "fire 0;fire 9 if left=" + blows, 5, 5, 5, 5).came(3), 1);
            String last = "fire 0" + strikes.substring(0, blows * ";strike 1 to 2".length()) + ";fire 9 if left=0";
            DUE.is("left behind the last", ran(blows, last, 5, 5, 5, 5).came(3), 1);
        }
    }

    /** A new HEAT leaves as many as told, whatever was left. */
    private static void blowsNotAdded() {
        HotIron x = ran(2, "fire 0;fire 0;fire 9 if left=2;punch 0;punch 0;punch 0", 5, 5, 5, 5);
        DUE.is("left", x.came(3), 1);
        DUE.is("BLOWS", x.came(1), 2);
        DUE.is("COLD", x.came(4), 1);
        x = ran(2, "fire 0;punch 0;punch 0;fire 0;fire 9 if left=2;punch 0;punch 0;punch 0", 5, 5, 5, 5);
        DUE.is("left behind all were used", x.came(3), 1);
        DUE.is("BLOWS", x.came(1), 4);
        DUE.is("COLD", x.came(4), 1);
    }

    /** "one of both is HOT (else it is COLD: the first CRACKS)". */
    private static void blowNeedsOneHot() {
        for (int p = 0; p < 5; p++) {
            for (int from = 0; from < 5; from++) {
                for (int to = Math.max(0, from - 1); to <= Math.min(4, from + 1); to++) {
                    if (to == from) {
                        continue;
                    }
                    boolean hot = Math.abs(p - from) <= 1 || Math.abs(p - to) <= 1;
                    HotIron x = ran(3, "fire " + p + ";strike " + from + " to " + to, 5, 5, 5, 5, 5);
                    String call = "HEAT at " + p + ", " + from + " to " + to;
                    DUE.is(call + ": MOVES", x.came(2), hot ? 1 : 0);
                    DUE.is(call + ": COLD", x.came(4), hot ? 0 : 1);
                    DUE.is(call + ": CRACKS", x.came(11), hot ? 0 : 1 << from);
                    DUE.is(call + ": BLOWS", x.came(1), hot ? 1 : 0);
                    DUE.is(call + ": IRON", x.iron(to), (hot ? 6 : 5) - (to == p ? 1 : 0));
                    DUE.is(call + ": IRON", x.iron(from), (hot ? 4 : 5) - (from == p ? 1 : 0));
                }
            }
        }
    }

    /** "the first has 2 IRON at least". */
    private static void blowNeedsTwoIron() {
        HotIron x = ran(3, "fire 0;strike 1 to 2", 3, 2, 3, 3);
        DUE.is("two", x.came(2), 1);
        DUE.is("one is left", Due.irons(x, 4), 2143);
        x = ran(3, "fire 0;strike 1 to 2", 3, 1, 3, 3);
        DUE.is("one", x.came(2), 0);
        DUE.is("a DUD", x.came(3), 1);
        DUE.is("not COLD", x.came(4), 0);
        DUE.is("no CRACK", x.came(11), 0);
        DUE.is("it stays", Due.irons(x, 4), 2133);
    }

    /** "the other not 9". */
    private static void blowNeedsRoom() {
        HotIron x = ran(3, "fire 0;strike 1 to 2", 3, 3, 8, 3);
        DUE.is("eight", x.came(2), 1);
        DUE.is("nine then", Due.irons(x, 4), 2293);
        x = ran(3, "fire 0;strike 1 to 2", 3, 3, 9, 3);
        DUE.is("nine", x.came(2), 0);
        DUE.is("a DUD", x.came(3), 1);
        DUE.is("it stays", Due.irons(x, 4), 2393);
        x = ran(3, "fire 0;strike 1 to 0", 9, 3, 3, 3);
        DUE.is("nine that lost its SCALE", x.came(2), 1);
        x = ran(3, "fire 0;strike 2 to 1", 3, 3, 9, 3);
        DUE.is("the first may have nine", x.came(2), 1);
    }

    /** "no SHOULDER is between them": from either side, and only there. */
    private static void blowNeedsNoShoulder() {
        for (int at = 0; at < 4; at++) {
            for (int from = 0; from < 5; from++) {
                for (int to = Math.max(0, from - 1); to <= Math.min(4, from + 1); to++) {
                    if (to == from) {
                        continue;
                    }
                    // A HEAT for the SHOULDER, another one for the BLOW.
                    HotIron x = ran(3, "fire " + at + ";shoulder " + at + ";fire " + from + ";strike " + from + " to " + to,
                            5, 5, 5, 5, 5);
                    boolean dud = at == Math.min(from, to);
                    DUE.is("SHOULDER " + at + ", " + from + " to " + to, x.came(2), dud ? 0 : 1);
                    DUE.is("DUDS", x.came(3), dud ? 1 : 0);
                    DUE.is("COLD", x.came(4), 0);
                }
            }
        }
    }

    /** "One BLOW less is left by each that is not COLD (a DUD, too)". */
    private static void dudUsesABlow() {
        HotIron x = ran(1, "fire 0;strike 1 to 2;strike 0 to 1", 3, 1, 3, 3);
        DUE.is("DUDS", x.came(3), 1);
        DUE.is("COLD behind it", x.came(4), 1);
        DUE.is("BLOWS", x.came(1), 1);
        x = ran(2, "fire 0;strike 1 to 2;strike 0 to 1", 3, 1, 3, 3);
        DUE.is("MOVES of two", x.came(2), 1);
        DUE.is("BLOWS of two", x.came(1), 2);
        x = ran(1, "fire 0;strike 2 to 3;strike 0 to 1", 3, 3, 3, 3);
        DUE.is("a COLD one leaves it", x.came(2), 1);
        DUE.is("BLOWS", x.came(1), 1);
    }

    /** What is COLD is no DUD, even if it would not MOVE anyway. */
    private static void coldAheadOfDud() {
        HotIron x = ran(3, "fire 0;strike 2 to 3", 3, 3, 1, 9);
        DUE.is("COLD", x.came(4), 1);
        DUE.is("DUDS", x.came(3), 0);
        DUE.is("CRACKS", x.came(11), 4);
        x = ran(1, "fire 0;shoulder 0;strike 0 to 1", 3, 3, 3, 3);
        DUE.is("no BLOW left and a SHOULDER: COLD", x.came(4), 1);
        DUE.is("DUDS", x.came(3), 0);
        DUE.is("CRACKS", x.came(11), 1);
    }

    private static void coldLeavesAll() {
        HotIron x = ran(3, "strike 1 to 2;strike 1 to 0;strike 3 to 2", 3, 3, 3, 3);
        DUE.is("IRON", Due.irons(x, 4), 3333);
        DUE.is("COLD", x.came(4), 3);
        DUE.is("CRACKS of the first, once", x.came(11), 2 | 8);
        DUE.is("BLOWS, MOVES, DUDS, SCALE, FOLDS", x.came(1) + x.came(2) + x.came(3) + x.came(5) + x.came(10), 0);
    }

    /** "If behind a MOVE the other has more than twice the IRON of the first, the other has a FOLD". */
    private static void foldsOfMoves() {
        for (int first = 2; first <= 9; first++) {
            for (int other = 1; other <= 8; other++) {
                int due = other + 1 > 2 * (first - 1) ? 1 : 0;
                DUE.is("FOLDS of " + first + " to " + other, ran(3, "fire 2;strike 1 to 0", other, first, 3, 3, 3).came(10), due);
                int mirrored = ran(3, "fire 2;strike 3 to 4", 3, 3, 3, first, other).came(10);
                DUE.is("FOLDS of " + first + " to " + other + ", mirrored", mirrored, due << 4);
            }
        }
        DUE.is("4 and 2: twice is none", ran(3, "fire 2;strike 1 to 0", 3, 3, 3, 3, 3).came(10), 0);
        DUE.is("5 and 2", ran(3, "fire 2;strike 1 to 0", 4, 3, 3, 3, 3).came(10), 1);
    }

    /** SCALE, DUDS, COLD ones and HOLES fold nothing; a FOLD stays. */
    private static void foldsOfMovesAlone() {
        DUE.is("by SCALE", ran(3, "fire 0", 2, 9, 3, 3).came(10), 0);
        DUE.is("by a DUD", ran(3, "fire 0;strike 0 to 1", 2, 8, 3, 3).came(10), 0);
        DUE.is("by a COLD one", ran(3, "strike 0 to 1", 2, 8, 3, 3).came(10), 0);
        DUE.is("by a HOLE", ran(3, "fire 1;punch 0;punch 0", 2, 9, 3, 3).came(10), 0);
        HotIron x = ran(4, "fire 0;strike 1 to 2;strike 2 to 1;strike 2 to 1", 3, 2, 5, 3);
        DUE.is("a FOLD stays", x.came(10), 4);
        DUE.is("though they are 4 and 3 by then", Due.irons(x, 4), 2343);
    }
}
