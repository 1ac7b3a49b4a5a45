import java.util.Random;

/** The edges that Terms V (a GATE) and promises 24 and 25 name: piece, soonest. */
public final class GateEdgesTest {
    private static final Due DUE = new Due("GateEdgesTest");
    private static final Edge EDGE = new Edge(DUE);
    private static final int MIN = Integer.MIN_VALUE;
    private static final int MAX = Integer.MAX_VALUE;

    public static void main(String[] args) {
        pieceMinutes();
        pieceNeeds();
        pieceNumbers();
        pieceWithoutRoom();
        pieceFirstRefusal();
        soonestFires();
        soonestPieces();
        soonestWithout();
        moreFiresThanPieces();
        fireThatIsFreeFirst();
        notAheadOfItsNeed();
        eachBehindItsNeed();
        drawnGates();
        firstOfRowsAlike();
        soonestOfWhatStands();
        eightInARow();
        DUE.close();
    }

    /** Pairs of MINUTES and NEED. */
    private static HotIron gate(int... pairs) {
        HotIron x = new HotIron();
        for (int i = 0; i < pairs.length; i += 2) {
            DUE.is("piece(" + pairs[i] + ", " + pairs[i + 1] + ")", x.piece(pairs[i], pairs[i + 1]), i / 2);
        }
        return x;
    }

    /** When the last one is done, then when each begins. */
    private static void soonest(String why, HotIron x, int fires, int... due) {
        for (int what = -1; what < due.length - 1; what++) {
            DUE.is(why + ", soonest(" + fires + ", " + what + ")", x.soonest(fires, what), due[what + 1]);
        }
    }

    /** "MINUTES 1 .. 200". */
    private static void pieceMinutes() {
        int[] cannot = {MIN, -200, -1, 0, 201, 202, MAX};
        for (int minutes : cannot) {
            EDGE.refused(Look.busy(), "piece(" + minutes + ", NONE)", x -> x.piece(minutes, -1), -1);
        }
        int[] can = {1, 2, 199, 200};
        for (int minutes : can) {
            EDGE.granted(Look.busy(), "piece(" + minutes + ", NONE)", x -> x.piece(minutes, -1), 3, "gate");
            soonest("alone", gate(minutes, -1), 1, minutes, 0);
        }
    }

    /** "a NEED: a PIECE with a lower number, or none"; "-2 its NEED". */
    private static void pieceNeeds() {
        int[] cannot = {MIN, -3, -2, 3, 4, 7, 8, MAX};
        for (int need : cannot) {
            EDGE.refused(Look.busy(), "piece(1, " + need + ")", x -> x.piece(1, need), -2);
        }
        int[] can = {-1, 0, 1, 2};
        for (int need : can) {
            EDGE.granted(Look.busy(), "piece(7, " + need + ")", x -> x.piece(7, need), 3, "gate");
        }
        EDGE.refused(new HotIron(), "piece(1, 0) as the first", x -> x.piece(1, 0), -2);
        EDGE.granted(new HotIron(), "piece(1, NONE) as the first", x -> x.piece(1, -1), 0, "gate");
    }

    /** "PIECES 0 .. 7 (8 at most)"; "its number". */
    private static void pieceNumbers() {
        HotIron x = new HotIron();
        for (int i = 0; i < 8; i++) {
            DUE.is("itself as its NEED", x.piece(1, i), -2);
            DUE.is("piece " + i, x.piece(1, i - 1), i);
            DUE.is("count(2)", x.count(2), i + 1);
        }
        DUE.is("a ninth", x.piece(1, 7), -5);
        DUE.is("count(2)", x.count(2), 8);
        DUE.is("count(6)", x.count(6), 8);
        DUE.is("count(8)", x.count(8), 1);
    }

    private static void pieceWithoutRoom() {
        int[] needs = {-1, 0, 6, 7};
        for (int need : needs) {
            EDGE.refused(Look.full(), "piece(1, " + need + ") without room", x -> x.piece(1, need), -5);
            EDGE.refused(Look.full(), "piece(200, " + need + ") without room", x -> x.piece(200, need), -5);
        }
    }

    /** "The first of these in that order": -1 ahead of -2 ahead of -5. */
    private static void pieceFirstRefusal() {
        int[] minutes = {0, 201, MIN, MAX};
        int[] needs = {-2, 8, MIN, MAX};
        for (int m : minutes) {
            for (int need : needs) {
                EDGE.refused(Look.full(), "piece(" + m + ", " + need + ") without room", x -> x.piece(m, need), -1);
                EDGE.refused(Look.busy(), "piece(" + m + ", " + need + ")", x -> x.piece(m, need), -1);
            }
            EDGE.refused(Look.full(), "piece(" + m + ", NONE) without room", x -> x.piece(m, -1), -1);
        }
        for (int need : needs) {
            EDGE.refused(Look.full(), "piece(1, " + need + ") without room", x -> x.piece(1, need), -2);
        }
    }

    /** "f FIRES (1 .. 3)". */
    private static void soonestFires() {
        int[] cannot = {MIN, -1, 0, 4, 5, MAX};
        for (int fires : cannot) {
            EDGE.asked(Look.busy(), "soonest(" + fires + ", NONE)", x -> x.soonest(fires, -1), -1);
            EDGE.asked(Look.busy(), "soonest(" + fires + ", 0)", x -> x.soonest(fires, 0), -1);
        }
        // 10, behind it 200, and 1.
        EDGE.asked(Look.busy(), "soonest(1, NONE)", x -> x.soonest(1, -1), 211);
        EDGE.asked(Look.busy(), "soonest(2, NONE)", x -> x.soonest(2, -1), 210);
        EDGE.asked(Look.busy(), "soonest(3, NONE)", x -> x.soonest(3, -1), 210);
    }

    /** "when the last one is done (what NONE), when PIECE number what begins. NONE". */
    private static void soonestPieces() {
        int[] none = {MIN, -2, 3, 4, 7, 8, MAX};
        for (int what : none) {
            EDGE.asked(Look.busy(), "soonest(2, " + what + ")", x -> x.soonest(2, what), -1);
        }
        EDGE.asked(Look.busy(), "soonest(2, 0)", x -> x.soonest(2, 0), 0);
        EDGE.asked(Look.busy(), "soonest(2, 1)", x -> x.soonest(2, 1), 10);
        // The first row is 0 1 2: PIECE 1 waits on FIRE 1 until 10, PIECE 2 takes FIRE 0 then.
        EDGE.asked(Look.busy(), "soonest(2, 2)", x -> x.soonest(2, 2), 10);
        EDGE.asked(Look.full(), "soonest(1, 8)", x -> x.soonest(1, 8), -1);
        EDGE.asked(Look.full(), "soonest(1, 7)", x -> x.soonest(1, 7) >= 0 ? 1 : 0, 1);
    }

    private static void soonestWithout() {
        for (int fires = 0; fires <= 4; fires++) {
            int f = fires;
            EDGE.asked(new HotIron(), "soonest(" + f + ", NONE) without PIECES", x -> x.soonest(f, -1), -1);
            EDGE.asked(new HotIron(), "soonest(" + f + ", 0) without PIECES", x -> x.soonest(f, 0), -1);
        }
    }

    private static void moreFiresThanPieces() {
        soonest("one", gate(7, -1), 3, 7, 0);
        soonest("two", gate(7, -1, 9, -1), 3, 9, 0, 0);
        soonest("three", gate(7, -1, 9, -1, 200, -1), 3, 200, 0, 0, 0);
        soonest("four", gate(7, -1, 9, -1, 200, -1, 1, -1), 3, 200, 0, 0, 0, 7);
    }

    /** "each begins on the FIRE that is free first (of alike ones the lowest)". */
    private static void fireThatIsFreeFirst() {
        soonest("on one each behind the other", gate(5, -1, 6, -1, 7, -1), 1, 18, 0, 5, 11);
        soonest("two alike", gate(5, -1, 5, -1, 5, -1, 5, -1), 2, 10, 0, 0, 5, 5);
        // By 0 1 2: PIECE 2 must take the FIRE that is free first, at 3.
        soonest("free at 3 and 8", gate(3, -1, 8, -1, 5, -1), 2, 8, 0, 0, 3);
    }

    /** "not ahead of the end of its NEED": the FIRE waits with it. */
    private static void notAheadOfItsNeed() {
        soonest("on another FIRE", gate(10, -1, 5, 0), 2, 15, 0, 10);
        soonest("on three", gate(10, -1, 5, 0), 3, 15, 0, 10);
        soonest("a row of needs", gate(1, -1, 2, 0, 3, 1, 4, 2), 3, 10, 0, 1, 3, 6);
        soonest("two that need one", gate(10, -1, 5, 0, 5, 0), 2, 15, 0, 10, 10);
        // 0 1 2 would end at 27: PIECE 1 holds the free FIRE from 0 on, so PIECE 2 goes ahead of it.
        soonest("a FIRE that would wait", gate(10, -1, 5, 0, 12, -1), 2, 15, 0, 10, 0);
    }

    /** "by a row of all PIECES (each behind its NEED)": a row with one ahead of it would be done as soon, but is none. */
    private static void eachBehindItsNeed() {
        // 2, 3, 4 need 22 one behind the other. By 0 1 and by 0 2 1 they wait for a FIRE; 0 2 3 1 4 is the first without.
        soonest("five on two", gate(10, -1, 4, -1, 9, -1, 5, 2, 8, 3), 2, 22, 0, 10, 0, 9, 14);
        // 2, 3, 5 need 28: 0 2 3 1 4 5 is the first row by which they do not wait.
        soonest("six on two", gate(12, -1, 4, 0, 11, -1, 8, 2, 12, -1, 9, 3), 2, 28, 0, 12, 0, 11, 16, 19);
        soonest("the same on three", gate(10, -1, 4, -1, 9, -1, 5, 2, 8, 3), 3, 22, 0, 0, 0, 9, 14);
    }

    /** Gates with many NEEDS, against all rows there are, and one behind the other on one object. */
    private static void drawnGates() {
        for (int seed = 0; seed < 300; seed++) {
            Random random = new Random(seed);
            HotIron x = new HotIron();
            Smith smith = new Smith();
            int many = 3 + random.nextInt(seed % 10 == 0 ? 5 : 4);
            int most = seed % 3 == 0 ? 4 : seed % 3 == 1 ? 12 : 60;
            for (int i = 0; i < many; i++) {
                int minutes = 1 + random.nextInt(most);
                int need = random.nextBoolean() ? -1 : random.nextInt(i + 1) - 1;
                smith.pieces.add(new int[] {minutes, need});
                x.piece(minutes, need);
            }
            for (int fires = 1; fires <= 3; fires++) {
                soonest("gate " + seed, x, fires, smith.soonest(fires));
            }
        }
    }

    /** "of alike ones the first as rows". */
    private static void firstOfRowsAlike() {
        soonest("one FIRE", gate(9, -1, 1, -1, 5, -1), 1, 15, 0, 9, 10);
        soonest("one FIRE and needs", gate(9, -1, 1, 0, 5, -1), 1, 15, 0, 9, 10);
        soonest("two FIRES", gate(4, -1, 4, -1, 8, -1), 2, 8, 0, 4, 0);
        // 0 1 2 3 ends at 5: 0 and 1 first, then 2 behind 1 and 3 behind 0.
        soonest("four on two", gate(3, -1, 2, -1, 3, -1, 2, -1), 2, 5, 0, 0, 2, 3);
    }

    /** A PIECE that comes, and BACK, make another GATE. */
    private static void soonestOfWhatStands() {
        HotIron x = gate(10, -1);
        soonest("one", x, 1, 10, 0);
        x.image(0);
        x.piece(20, -1);
        soonest("two", x, 1, 30, 0, 10);
        x.back(0);
        soonest("one again", x, 1, 10, 0);
        DUE.is("no second", x.soonest(1, 1), -1);
        x.piece(5, 0);
        soonest("another second", x, 1, 15, 0, 10);
        x.piece(0, -1);
        x.piece(5, 9);
        soonest("refused ones leave it", x, 1, 15, 0, 10);
    }

    private static void eightInARow() {
        HotIron x = gate(200, -1, 200, 0, 200, 1, 200, 2, 200, 3, 200, 4, 200, 5, 200, 6);
        for (int fires = 1; fires <= 3; fires++) {
            soonest("eight in a row", x, fires, 1600, 0, 200, 400, 600, 800, 1000, 1200, 1400);
        }
        HotIron y = gate(1, -1, 1, -1, 1, -1, 1, -1, 1, -1, 1, -1, 1, -1, 1, -1);
        soonest("eight alike on three", y, 3, 3, 0, 0, 0, 1, 1, 1, 2, 2);
    }
}
