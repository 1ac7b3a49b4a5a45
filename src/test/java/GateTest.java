/** Promises 24 and 25: piece, soonest. */
public final class GateTest {
    private static final Due DUE = new Due("GateTest");

    public static void main(String[] args) {
        pieces();
        soonest();
        firstRow();
        eight();
        DUE.close();
    }

    private static void pieces() {
        HotIron x = new HotIron();
        DUE.is("no minutes", x.piece(0, -1), -1);
        DUE.is("too many minutes", x.piece(201, -1), -1);
        DUE.is("a need below none", x.piece(1, -2), -2);
        DUE.is("its status", x.status(), -2);
        DUE.is("a need far below none", x.piece(200, Integer.MIN_VALUE), -2);
        DUE.is("a need far above", x.piece(200, Integer.MAX_VALUE), -2);
        DUE.is("itself", x.piece(1, 0), -2);
        DUE.is("minutes first", x.piece(0, 5), -1);
        DUE.is("minutes ahead of a need below none", x.piece(201, -2), -1);
        DUE.is("no pieces", x.count(2), 0);
        DUE.is("piece 0", x.piece(200, -1), 0);
        DUE.is("piece 1", x.piece(1, 0), 1);
        DUE.is("itself", x.piece(1, 2), -2);
        DUE.is("later", x.piece(1, 7), -2);
        for (int i = 2; i < 8; i++) {
            DUE.is("piece " + i, x.piece(i, i - 1), i);
        }
        DUE.is("no room", x.piece(1, -1), -5);
        DUE.is("no such piece ahead of no room", x.piece(1, 8), -2);
        DUE.is("a need below none ahead of no room", x.piece(1, -2), -2);
        DUE.is("minutes ahead of all", x.piece(0, 8), -1);
        DUE.is("count(2)", x.count(2), 8);
        DUE.is("refused by -1", x.count(5), 5);
        DUE.is("refused by -2", x.count(6), 8);
        DUE.is("refused by -5", x.count(8), 1);
        DUE.is("all in a row", x.soonest(3, -1), 200 + 1 + 2 + 3 + 4 + 5 + 6 + 7);
        DUE.is("the last begins", x.soonest(3, 7), 200 + 1 + 2 + 3 + 4 + 5 + 6);
    }

    private static void soonest() {
        HotIron x = new HotIron();
        DUE.is("no pieces", x.soonest(1, -1), -1);
        x.piece(10, -1);
        DUE.is("fires 0", x.soonest(0, -1), -1);
        DUE.is("fires 4", x.soonest(4, -1), -1);
        DUE.is("what -2", x.soonest(1, -2), -1);
        DUE.is("what 1", x.soonest(1, 1), -1);
        DUE.is("one", x.soonest(1, -1), 10);
        DUE.is("begins", x.soonest(1, 0), 0);
        x.piece(20, -1);
        DUE.is("two on one", x.soonest(1, -1), 30);
        DUE.is("two on two", x.soonest(2, -1), 20);
        DUE.is("two on three", x.soonest(3, -1), 20);
        x.piece(30, -1);
        DUE.is("three on two", x.soonest(2, -1), 30);
        // 0 1 2 ends at 40; 0 2 1 by 30, with 1 behind 0.
        DUE.is("0 begins", x.soonest(2, 0), 0);
        DUE.is("1 begins", x.soonest(2, 1), 10);
        DUE.is("2 begins", x.soonest(2, 2), 0);
        DUE.is("none of these is refused", x.status(), 0);
    }

    private static void firstRow() {
        HotIron x = new HotIron();
        x.piece(10, -1);
        x.piece(10, 0);
        x.piece(5, -1);
        // Rows 0 1 2 and 0 2 1 and 2 0 1 on two fires: by 0 1 2 the second fire waits for 0.
        DUE.is("done", x.soonest(2, -1), 20);
        DUE.is("0 begins", x.soonest(2, 0), 0);
        DUE.is("1 waits on the fire that is free first", x.soonest(2, 1), 10);
        DUE.is("2 behind both in the first row", x.soonest(2, 2), 10);
        DUE.is("one fire", x.soonest(1, 2), 20);
        DUE.is("three fires", x.soonest(3, 2), 0);
    }

    private static void eight() {
        HotIron x = new HotIron();
        for (int i = 0; i < 8; i++) {
            x.piece(200, -1);
        }
        DUE.is("eight alike on one", x.soonest(1, -1), 1600);
        DUE.is("eight alike on two", x.soonest(2, -1), 800);
        DUE.is("eight alike on three", x.soonest(3, -1), 600);
        for (int i = 0; i < 8; i++) {
            DUE.is("in their order", x.soonest(3, i), 200 * (i / 3));
        }
        HotIron y = new HotIron();
        y.image(0);
        y.piece(7, -1);
        DUE.is("seven", y.soonest(1, -1), 7);
        y.back(0);
        y.piece(9, -1);
        DUE.is("another gate", y.soonest(1, -1), 9);
    }
}
