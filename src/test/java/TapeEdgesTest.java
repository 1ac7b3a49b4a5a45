/** The edges that Terms V (a ROW) and promises 7 to 9 name: feed, end, row. */
public final class TapeEdgesTest {
    private static final Due DUE = new Due("TapeEdgesTest");
    private static final Edge EDGE = new Edge(DUE);
    private static final int MIN = Integer.MIN_VALUE;
    private static final int MAX = Integer.MAX_VALUE;

    public static void main(String[] args) {
        feedToTheLastByte();
        feedWithoutRoom();
        feedLeavesBytes();
        feedHighestFirst();
        feedBehind();
        endCan();
        endCannot();
        endCutsForGood();
        rowOfBytes();
        rowCannot();
        rowBurnt();
        rowBreaksOff();
        rowLeavesShape();
        DUE.close();
    }

    /** An object of n CELLS with so many bytes on its TAPE, each of them 0. */
    private static HotIron taped(int n, int bytes) {
        HotIron x = Look.busy();
        x.wide(n);
        x.end(0);
        while (x.count(4) < bytes) {
            x.feed(0, 0, 0, 0, 0);
        }
        x.end(bytes);
        return x;
    }

    /** "Twenty bytes come behind the TAPE: how many it has"; "at most 400 bytes". */
    private static void feedToTheLastByte() {
        int[] lengths = {0, 1, 19, 20, 379, 380};
        for (int length : lengths) {
            EDGE.asked(taped(4, length), "feed at " + length, x -> x.feed(1, 2, 3, 4, 5), length + 20, "tape");
        }
    }

    /** "NONE, if there would be more than 400". */
    private static void feedWithoutRoom() {
        int[] lengths = {381, 382, 399, 400};
        for (int length : lengths) {
            EDGE.asked(taped(4, length), "feed at " + length, x -> x.feed(1, 2, 3, 4, 5), -1);
        }
        HotIron x = Look.full();
        EDGE.asked(x, "feed at 400", y -> y.feed(MAX, MIN, -1, 0, 1), -1);
    }

    /** What has no room leaves no byte behind, and those that were there stay. */
    private static void feedLeavesBytes() {
        HotIron x = new HotIron();
        Due.write(x, "fire 1" + " ".repeat(375));
        DUE.is("381 bytes", x.count(4), 381);
        DUE.is("feed of ?", x.feed(0x3F3F3F3F, 0x3F3F3F3F, 0x3F3F3F3F, 0x3F3F3F3F, 0x3F3F3F3F), -1);
        DUE.is("the TEXT as it was", x.recipe(), 0);
        x = new HotIron();
        Due.write(x, " ".repeat(394) + "fire 1");
        DUE.is("400 bytes", x.count(4), 400);
        DUE.is("feed of ?", x.feed(0x3F3F3F3F, 0x3F3F3F3F, 0x3F3F3F3F, 0x3F3F3F3F, 0x3F3F3F3F), -1);
        DUE.is("the TEXT as it was", x.recipe(), 0);
    }

    /** "four of each number, the highest first": of each of the five numbers each of its bytes. */
    private static void feedHighestFirst() {
        for (int i = 0; i < 5; i++) {
            for (int b = 0; b < 4; b++) {
                int[] five = {0x20202020, 0x20202020, 0x20202020, 0x20202020, 0x20202020};
                five[i] ^= ('?' ^ ' ') << 24 - 8 * b;
                HotIron x = new HotIron();
                x.feed(five[0], five[1], five[2], five[3], five[4]);
                x.recipe();
                DUE.is("byte " + b + " of number " + i, x.fault(), 4 * i + b);
            }
        }
        HotIron x = new HotIron();
        x.wide(5);
        x.feed(9, 8, 7, 6, 5);
        DUE.is("row()", x.row(), 5);
        DUE.is("the numbers in their order", new Look(x).of("bar"), "9 8 7 6 5");
    }

    private static void feedBehind() {
        HotIron x = new HotIron();
        DUE.is("the first twenty", x.feed(1, 2, 3, 4, 5), 20);
        DUE.is("end(6)", x.end(6), 6);
        DUE.is("behind six", x.feed(1, 2, 3, 4, 5), 26);
        DUE.is("end(0)", x.end(0), 0);
        DUE.is("behind none", x.feed(1, 2, 3, 4, 5), 20);
        x.row();
        DUE.is("behind row()", x.feed(1, 2, 3, 4, 5), 20);
        x.recipe();
        DUE.is("behind recipe()", x.feed(1, 2, 3, 4, 5), 20);
    }

    /** "The TAPE has its first n bytes alone: n". */
    private static void endCan() {
        int[][] cases = {{0, 0}, {1, 0}, {1, 1}, {7, 0}, {7, 6}, {7, 7}, {400, 0}, {400, 399}, {400, 400}};
        for (int[] lengthAndN : cases) {
            int length = lengthAndN[0];
            int n = lengthAndN[1];
            EDGE.asked(taped(4, length), "end(" + n + ") of " + length, x -> x.end(n), n, n == length ? "" : "tape");
        }
    }

    /** "NONE, if it has not so many, or n is below 0". */
    private static void endCannot() {
        int[][] cases = {{0, 1}, {0, -1}, {7, 8}, {7, -1}, {7, MIN}, {7, MAX}, {7, 400}, {400, 401}, {400, -1}, {399, 400}};
        for (int[] lengthAndN : cases) {
            int length = lengthAndN[0];
            int n = lengthAndN[1];
            EDGE.asked(taped(4, length), "end(" + n + ") of " + length, x -> x.end(n), -1);
        }
    }

    /** Bytes that were cut off do not come again. */
    private static void endCutsForGood() {
        HotIron x = new HotIron();
        Due.write(x, "fire 1?");
        DUE.is("end(6)", x.end(6), 6);
        DUE.is("end(7)", x.end(7), -1);
        DUE.is("the first six alone", x.recipe(), 0);
        Due.write(x, "fire 1?");
        x.end(5);
        Due.write(x, "2");
        DUE.is("what comes stands behind the first five", x.recipe(), 1);
    }

    /** "how many CELLS were told"; "-6 the TAPE is empty, or has more ints (one that breaks off counts) than CELLS". */
    private static void rowOfBytes() {
        for (int n = 3; n <= 5; n++) {
            for (int bytes = 1; bytes <= 4 * n; bytes++) {
                String changes = bytes < 4 ? "tape" : "bar tape";
                EDGE.granted(taped(n, bytes), "row() of " + bytes + " bytes, " + n + " CELLS", x -> x.row(), bytes / 4, changes);
            }
            int[] tooMany = {4 * n + 1, 4 * n + 3, 4 * n + 4, 4 * n + 5, 399, 400};
            for (int bytes : tooMany) {
                EDGE.refused(taped(n, bytes), "row() of " + bytes + " bytes, " + n + " CELLS", x -> x.row(), -6, "tape");
            }
            EDGE.refused(taped(n, 0), "row() of an empty TAPE, " + n + " CELLS", x -> x.row(), -6);
        }
    }

    /** A ROW that is refused tells none of its CELLS, and the TAPE is empty then. */
    private static void rowCannot() {
        HotIron x = new HotIron();
        x.feed(9, 9, 9, 9, 9);
        x.end(17);
        DUE.is("a fifth breaks off", x.row(), -6);
        DUE.is("no CELL is told", x.count(3), 12);
        DUE.is("the TAPE is empty", x.count(4), 0);
        DUE.is("and so row() is refused again", x.row(), -6);
        DUE.is("twice", x.count(9), 2);
        x.wide(5);
        x.feed(9, 9, 9, 9, 9);
        DUE.is("five CELLS can", x.row(), 5);
        DUE.is("five CELLS are told", x.count(3), 45);
        DUE.is("status()", x.status(), 0);
        DUE.is("the TAPE is empty", x.count(4), 0);
    }

    /** "one that can't be is BURNT: 1", and counts among those told; 1 .. 9 can be. */
    private static void rowBurnt() {
        int[] burnt = {0, 10, 11, -1, -9, 255, 256, 257, 265, 0x0100, 0x0105, 0x010005, 0x05000000, 0x01000005, MIN, MIN | 5, MAX};
        for (int number : burnt) {
            DUE.is("row of " + number, told(number), "1 3 1 3 / 3");
        }
        for (int iron = 1; iron <= 9; iron++) {
            DUE.is("row of " + iron, told(iron), iron + " 3 " + iron + " 3 / 3");
        }
    }

    /** The BAR and how many were told, of a number in CELLS 0 and 2, with 3 in CELL 1. */
    private static String told(int number) {
        HotIron x = new HotIron();
        x.feed(number, 3, number, 0, 0);
        x.end(12);
        int many = x.row();
        DUE.is("status()", x.status(), 0);
        return new Look(x).of("bar") + " / " + many;
    }

    /** "if the TAPE ends within one, that one and those behind it stay". */
    private static void rowBreaksOff() {
        for (int bytes = 1; bytes <= 20; bytes++) {
            HotIron x = new HotIron();
            Due.bar(x, 2, 2, 2, 2, 2);
            x.feed(7, 7, 7, 7, 7);
            x.end(bytes);
            DUE.is("row() of " + bytes, x.row(), bytes / 4);
            int stay = 5 - bytes / 4;
            DUE.is("bar behind " + bytes, new Look(x).of("bar"), ("7 ".repeat(5 - stay) + "2 ".repeat(stay)).trim());
        }
    }

    private static void rowLeavesShape() {
        HotIron x = new HotIron();
        x.feed(7, 7, 7, 7, 0);
        x.end(16);
        x.row();
        DUE.is("shape", new Look(x).of("shape"), "3 3 3 3");
        DUE.is("bar", new Look(x).of("bar"), "7 7 7 7");
    }
}
