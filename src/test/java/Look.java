import java.util.LinkedHashMap;
import java.util.Map;
import java.util.function.IntToLongFunction;

/** All that an object shows of what stands. */
final class Look {
    private final Map<String, String> shown = new LinkedHashMap<>();

    /** What is set can only be read by setting it: it is set back at once, and status() is 0 then. */
    Look(HotIron x) {
        int cells = x.count(0);
        shown.put("cells", "" + cells);
        shown.put("bar", row(cells, cell -> back(x.bar(cell, 1), iron -> x.bar(cell, iron))));
        shown.put("shape", row(cells, cell -> back(x.shape(cell, 1), iron -> x.shape(cell, iron))));
        shown.put("tongs", "" + back(x.tongs(2), numbers -> x.tongs(numbers)));
        shown.put("terms", row(5, what -> back(x.terms(what, 1), value -> x.terms(what, value))));
        shown.put("recipes", row(8, k -> x.steps(k)) + x.count(1));
        shown.put("gate", row(9, what -> x.soonest(2, what - 1)) + x.soonest(1, -1) + " " + x.count(2));
        shown.put("run", row(14, what -> x.came(what)) + row(5, cell -> x.iron(cell)) + x.welds(0) + "/" + x.welds(1));
        shown.put("tape", "" + x.count(4));
        shown.put("fault", "" + x.fault());
    }

    private static int back(int was, IntToLongFunction set) {
        set.applyAsLong(was);
        return was;
    }

    static String row(int many, IntToLongFunction ask) {
        StringBuilder row = new StringBuilder();
        for (int i = 0; i < many; i++) {
            row.append(ask.applyAsLong(i)).append(' ');
        }
        return row.toString();
    }

    String of(String name) {
        return shown.get(name).trim();
    }

    /** The names of what is another in a later look. */
    String changed(Look later) {
        StringBuilder names = new StringBuilder();
        for (String name : shown.keySet()) {
            if (!of(name).equals(later.of(name))) {
                names.append(names.length() == 0 ? "" : " ").append(name);
            }
        }
        return names.toString();
    }

    /** An object in which nothing is as at first: five CELLS, two RECIPES, three PIECES, a run(), 7 bytes, a FAULT, IMAGE 0. */
    static HotIron busy() {
        HotIron x = new HotIron();
        Due.bar(x, 9, 1, 4, 2, 6);
        Due.shape(x, 8, 2, 4, 1, 5);
        x.tongs(0b1001010110);
        int[] terms = {2, 50, 30, 7, 10};
        for (int what = 0; what < 5; what++) {
            x.terms(what, terms[what]);
        }
        Due.recipe(x, "fire 3;strike 3 to 2;weld 2");
        Due.recipe(x, "fire 0;strike 0 to 1;go 0 if heats<3;punch 0");
        x.run(0);
        x.piece(10, HotIron.NONE);
        x.piece(200, 0);
        x.piece(1, HotIron.NONE);
        Due.recipe(x, "fire ?");
        x.image(0);
        Due.write(x, "fire 2;");
        return x;
    }

    /** As busy, but without room: eight RECIPES (and a FAULT still), eight PIECES, 400 bytes. */
    static HotIron full() {
        HotIron x = busy();
        x.end(0);
        for (int k = 2; k < 7; k++) {
            Due.recipe(x, "fire 0");
        }
        int[] needs = {2, 3, HotIron.NONE, 0, 6};
        for (int need : needs) {
            x.piece(20, need);
        }
        x.image(0);
        Due.recipe(x, "fire 1");
        x.image(1);
        x.back(0);
        Due.recipe(x, "fire ?");
        x.back(1);
        for (int i = 0; i < 20; i++) {
            x.feed(0x20202020, 0x20202020, 0x20202020, 0x20202020, 0x20202020);
        }
        return x;
    }
}
