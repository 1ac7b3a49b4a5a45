import java.util.List;
import java.util.Random;

/** Runs of calls, drawn from fixed seeds, of which the plain Smith tells what is due. */
public final class AgainstSmithTest {
    private static final Due DUE = new Due("AgainstSmithTest");

    public static void main(String[] args) {
        for (int seed = 0; seed < 300; seed++) {
            recipes(new Random(seed));
        }
        for (int seed = 0; seed < 1000; seed++) {
            faults(new Random(seed));
        }
        for (int seed = 0; seed < 40; seed++) {
            plans(new Random(seed), 3 + seed % 2, 6);
        }
        for (int seed = 0; seed < 12; seed++) {
            plans(new Random(seed), 5, 2);
        }
        for (int seed = 0; seed < 60; seed++) {
            gates(new Random(seed));
        }
        DUE.close();
    }

    private static int draw(Random random, int low, int high) {
        return low + random.nextInt(high - low + 1);
    }

    private static String row(Random random, int cells, int most) {
        StringBuilder row = new StringBuilder();
        for (int cell = 0; cell < cells; cell++) {
            row.append(draw(random, 1, most));
        }
        return row.toString();
    }

    private static int tongs(Random random) {
        int numbers = random.nextInt(3) == 0 ? random.nextInt(1024) & 1022 : 1022;
        return numbers == 0 ? 1022 : numbers;
    }

    private static void setUp(HotIron x, Smith smith) {
        x.wide(smith.cells);
        for (int cell = 0; cell < smith.cells; cell++) {
            x.bar(cell, Smith.iron(smith.bar, cell));
            x.shape(cell, Smith.iron(smith.shape, cell));
        }
        x.tongs(smith.tongs);
        for (int what = 0; what < 5; what++) {
            x.terms(what, smith.terms[what]);
        }
    }

    private static void recipes(Random random) {
        HotIron x = new HotIron();
        Smith smith = new Smith();
        smith.cells = draw(random, 3, 5);
        smith.bar = row(random, smith.cells, random.nextBoolean() ? 9 : 4);
        smith.shape = "3".repeat(smith.cells);
        smith.tongs = tongs(random);
        smith.terms = new int[] {draw(random, 1, 4), draw(random, 0, 100), draw(random, 0, 60), draw(random, 0, 60),
            draw(random, 0, 50)};
        setUp(x, smith);
        int many = draw(random, 1, 8);
        for (int k = 0; k < many; k++) {
            String text = Texts.text(random, smith.cells);
            while (Smith.fault(text) >= 0) {
                text = Texts.text(random, smith.cells);
            }
            smith.recipes.add(text);
            DUE.is("recipe " + text, Due.recipe(x, text), k);
            DUE.is("steps of " + text, x.steps(k), text.split(";").length);
        }
        for (int k = 0; k < many; k++) {
            oneRecipe(x, smith, k, random);
        }
    }

    private static void oneRecipe(HotIron x, Smith smith, int k, Random random) {
        String why = smith.bar + " " + smith.tongs + " " + smith.recipes.get(k) + ": ";
        Smith.Round round = smith.run(k);
        DUE.is(why + "run", x.run(k), round.gone);
        int[] came = round.came();
        for (int what = 0; what < 14; what++) {
            DUE.is(why + "came(" + what + ")", x.came(what), came[what]);
        }
        long over = 1;
        long under = 1;
        for (int cell = 0; cell < smith.cells; cell++) {
            DUE.is(why + "iron(" + cell + ")", x.iron(cell), round.iron[cell]);
            if (round.holds[cell] > 0) {
                over *= round.holds[cell];
                under *= 100;
            }
        }
        long common = over;
        while (over % common != 0 || under % common != 0) {
            common--;
        }
        DUE.is(why + "welds(0)", x.welds(0), over / common);
        DUE.is(why + "welds(1)", x.welds(1), under / common);
        for (int i = -1; i <= 16; i++) {
            DUE.is(why + "change " + i, x.change(k, i), smith.change(k, i));
        }
        DUE.is(why + "made", x.made(Integer.parseInt(round.row()), came[8], came[10]),
                smith.made(round.row(), came[8], came[10]));
        int slip = random.nextInt(101);
        int seed = random.nextInt(1000001);
        for (int what = 0; what < 3; what++) {
            DUE.is(why + "twelve " + slip + " " + seed + " " + what, x.twelve(k, slip, seed, what),
                    smith.twelve(k, slip, seed, what));
        }
    }

    /** A text with some tokens taken out, put in or exchanged. */
    private static void faults(Random random) {
        String[] tokens = {"fire", "strike", "to", "go", "if", "and", "or", "not", "(", ")", "[", "]", "<", "=", "+", "-", ";",
            "1", "15", "16", "99", "100", "007", "iron", "hot", "cells", "left", "weld", "?", "A", " ", "", "punch 1;", "1+"};
        HotIron x = new HotIron();
        x.image(0);
        StringBuilder text = new StringBuilder(Texts.text(random, 4));
        for (int turn = 0; turn < 6; turn++) {
            String now = text.length() > 400 ? text.substring(0, 400) : text.toString();
            Due.write(x, now);
            int due = Smith.fault(now);
            DUE.is("recipe of " + now, x.recipe(), due < 0 ? 0 : -6);
            DUE.is("fault of " + now, x.fault(), due);
            x.back(0);
            int at = random.nextInt(text.length() + 1);
            String token = tokens[random.nextInt(tokens.length)].repeat(random.nextInt(8) == 0 ? 12 : 1);
            int to = random.nextBoolean() ? at : Math.min(text.length(), at + 1);
            text.replace(at, to, random.nextBoolean() ? token : " " + token + " ");
        }
    }

    private static void plans(Random random, int cells, int mostReached) {
        HotIron x = new HotIron();
        for (int turn = 0; turn < 3; turn++) {
            Smith smith = new Smith();
            smith.cells = cells;
            smith.bar = row(random, cells, random.nextInt(3) > 0 ? 4 : 9);
            smith.tongs = tongs(random);
            smith.terms[0] = draw(random, 1, cells == 5 ? 2 : 4);
            smith.shape = worked(random, smith, cells == 5 ? 2 : 4);
            setUp(x, smith);
            plan(x, smith, mostReached);
        }
    }

    /** A row that is behind some HEATS, or another one now and then. */
    private static String worked(Random random, Smith smith, int mostHeats) {
        if (random.nextInt(6) == 0) {
            return row(random, smith.cells, 4);
        }
        String shape = smith.bar;
        int heats = draw(random, 0, mostHeats);
        for (int i = 0; i < heats; i++) {
            List<String> rows = List.copyOf(smith.behindHeat(shape, random.nextInt(smith.cells), smith.terms[0]));
            shape = rows.isEmpty() ? shape : rows.get(random.nextInt(rows.size()));
        }
        return shape;
    }

    private static void plan(HotIron x, Smith smith, int mostReached) {
        String why = smith.bar + " to " + smith.shape + " by " + smith.terms[0] + ", " + smith.tongs + ": ";
        List<String> plan = smith.plan();
        DUE.is(why + "heats", x.heats(), plan == null ? -1 : plan.size());
        for (int i = 0; i <= 6; i++) {
            boolean is = plan != null && i < plan.size();
            DUE.is(why + "plan(" + i + ", -1)", x.plan(i, -1), is ? plan.get(i).charAt(0) - '0' : -1);
            for (int cell = 0; cell < smith.cells; cell++) {
                DUE.is(why + "plan(" + i + ", " + cell + ")", x.plan(i, cell),
                        is ? plan.get(i).charAt(cell + 2) - '0' : -1);
            }
        }
        for (int k = 0; k <= mostReached; k++) {
            DUE.is(why + "reached " + k, x.reached(k), smith.reached(k));
        }
        if (smith.cells < 5) {
            DUE.is(why + "even", x.even(), smith.even());
            DUE.is(why + "striker", x.striker(), smith.striker());
        }
    }

    private static void gates(Random random) {
        HotIron x = new HotIron();
        Smith smith = new Smith();
        int many = draw(random, 1, 7);
        for (int i = 0; i < many; i++) {
            int minutes = draw(random, 1, random.nextBoolean() ? 200 : 5);
            int need = random.nextInt(3) == 0 ? random.nextInt(i + 1) - 1 : -1;
            smith.pieces.add(new int[] {minutes, need});
            DUE.is("piece", x.piece(minutes, need), i);
            for (int fires = 1; fires <= 3; fires++) {
                int[] due = smith.soonest(fires);
                for (int what = -1; what <= i; what++) {
                    DUE.is("soonest of " + i, x.soonest(fires, what), due[what + 1]);
                }
            }
        }
    }
}
