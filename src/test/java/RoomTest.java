import java.lang.management.ManagementFactory;
import java.util.Random;

/** No call throws, whatever its numbers and whatever stands; and what a run of 512 calls makes stays small. */
public final class RoomTest {
    private static final Due DUE = new Due("RoomTest");
    private static final int[] ODD = {Integer.MIN_VALUE, Integer.MAX_VALUE, -1000, -2, -1, 0, 1, 2, 3, 4, 5, 6, 7, 8, 9, 10, 15,
        16, 31, 32, 63, 64, 100, 101, 200, 201, 400, 1022, 3333, 99999, 1000000, 1000001};

    /** As many kinds of calls as the document's face has. */
    private static final int CALLS = 29;
    /** In one room there are some 7.3 million fields and elements: no element is smaller than a byte. */
    private static final int ROOM_BYTES = 7_300_000;

    public static void main(String[] args) {
        for (int seed = 0; seed < 60; seed++) {
            anything(new Random(seed));
        }
        room();
        for (int kind = 0; kind < CALLS; kind++) {
            roomOf(kind);
        }
        roomOfNew();
        DUE.close();
    }

    private static int odd(Random random) {
        return random.nextInt(3) > 0 ? random.nextInt(6) - 1 : ODD[random.nextInt(ODD.length)];
    }

    private static void anything(Random random) {
        String[] texts = {"fire 0;strike 0 to 1", "fire 1;weld 0;punch 1;shoulder 1;go 0 if heats<9", "go 0", "fire", "1",
            "fire iron(iron(iron(3)))-9;strike 0-left to cells if not hot(99)=1;weld 99-1", "?", ""};
        HotIron x = new HotIron();
        for (int i = 0; i < 512; i++) {
            int a = odd(random);
            int b = odd(random);
            int c = odd(random);
            long answer = i % 7 == 0 ? Due.recipe(x, texts[random.nextInt(texts.length)]) : call(x, random, a, b, c);
            DUE.is("an answer that can be", answer >= -1000 ? 1 : 0, 1);
        }
    }

    private static long call(HotIron x, Random random, int a, int b, int c) {
        return call(x, random.nextInt(CALLS), random, a, b, c);
    }

    private static long call(HotIron x, int kind, Random random, int a, int b, int c) {
        switch (kind) {
            case 0: return x.wide(a);
            case 1: return x.bar(a, b);
            case 2: return x.shape(a, b);
            case 3: return x.tongs(a << 1);
            case 4: return x.terms(a, b);
            case 5: return x.feed(a, b, c, a, b);
            case 6: return x.end(a);
            case 7: return x.row();
            case 8: return x.recipe();
            case 9: return x.fault();
            case 10: return x.steps(a);
            case 11: return x.run(a);
            case 12: return x.came(a);
            case 13: return x.iron(a);
            case 14: return x.welds(a);
            case 15: return x.heats();
            case 16: return x.plan(a, b);
            case 17: return x.reached(a);
            case 18: return x.even();
            case 19: return x.change(a, b);
            case 20: return x.made(random.nextBoolean() ? a : 3333, b, c);
            case 21: return x.twelve(a, b, c, random.nextInt(5) - 1);
            case 22: return x.piece(a, b);
            case 23: return x.soonest(a, b);
            case 24: return x.striker();
            case 25: return x.image(a);
            case 26: return x.back(a);
            case 27: return x.count(a);
            default: return x.status();
        }
    }

    /** The dearest calls, as often as an object may be called, on five CELLS, and what they make in bytes. */
    private static void room() {
        com.sun.management.ThreadMXBean threads = (com.sun.management.ThreadMXBean) ManagementFactory.getThreadMXBean();
        long self = Thread.currentThread().getId();
        long before = threads.getThreadAllocatedBytes(self);
        HotIron x = new HotIron();
        x.wide(5);
        for (int i = 0; i < 90; i++) {
            x.bar(i % 5, 1 + i % 9);
            x.shape(i % 3, 1 + i % 4);
            x.plan(0, 0);
            x.even();
            x.striker();
        }
        long made = threads.getThreadAllocatedBytes(self) - before;
        // Longs of 8 bytes: far below 7.3 million elements of one room.
        DUE.is("bytes of a run of plans: " + made, made < 1_000_000 ? 1 : 0, 1);
        before = threads.getThreadAllocatedBytes(self);
        HotIron y = new HotIron();
        for (int i = 0; i < 100; i++) {
            y.image(0);
            Due.recipe(y, "fire 0;strike 0 to 1;go 0 if heats<5");
            y.twelve(0, 50, i, 1);
            y.change(0, 0);
            y.made(3333, 0, 0);
            y.back(0);
        }
        made = threads.getThreadAllocatedBytes(self) - before;
        DUE.is("bytes of a run of recipes: " + made, made < 500_000 ? 1 : 0, 1);
    }

    /** What 512 calls of one kind make, of the three widths one behind the other, each with what makes it dear. */
    private static void roomOf(int kind) {
        com.sun.management.ThreadMXBean threads = (com.sun.management.ThreadMXBean) ManagementFactory.getThreadMXBean();
        long self = Thread.currentThread().getId();
        Random random = new Random(kind);
        HotIron x = new HotIron();
        for (int k = 0; k < 7; k++) {
            Due.recipe(x, "fire 3;strike 2 to 1;weld 2;punch 3;go 0 if heats<9");
        }
        x.image(0);
        x.image(1);
        long before = threads.getThreadAllocatedBytes(self);
        for (int i = 0; i < 512; i++) {
            if (i % 16 == 0) {
                x.back(0);
                x.wide(3 + i / 16 % 3);
                x.bar(0, 1 + i / 16 % 9);
            }
            if (kind == 8) {
                Due.write(x, "fire 0;go 0;go 0;go 0");
                x.back(0);
            }
            call(x, kind, random, i % 7, i % 3, i % 11);
        }
        long made = threads.getThreadAllocatedBytes(self) - before;
        DUE.is("bytes of 512 calls of kind " + kind + ": " + made, made < ROOM_BYTES / 4 ? 1 : 0, 1);
    }

    private static void roomOfNew() {
        com.sun.management.ThreadMXBean threads = (com.sun.management.ThreadMXBean) ManagementFactory.getThreadMXBean();
        long self = Thread.currentThread().getId();
        long before = threads.getThreadAllocatedBytes(self);
        int cells = 0;
        for (int i = 0; i < 512; i++) {
            cells += new HotIron().count(0);
        }
        long made = threads.getThreadAllocatedBytes(self) - before;
        DUE.is("CELLS of 512 new objects", cells, 512 * 4);
        DUE.is("bytes of 512 new objects: " + made, made < ROOM_BYTES ? 1 : 0, 1);
    }
}
