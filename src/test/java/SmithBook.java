import java.util.Arrays;
import java.util.List;

/** What each call is due to answer, call by call: the plain Smith with a TAPE, IMAGES, the latest run() and refusals. */
final class SmithBook {
    private static final int[] LOW = {1, 0, 0, 0, 0};
    private static final int[] HIGH = {4, 100, 60, 60, 50};

    Smith smith = new Smith();
    private final Smith[] images = new Smith[2];
    private String tape = "";
    private int fault = -1;
    private int[] came;
    private int[] ironBehind;
    private long[] odds;
    private int status = 0;
    private final int[] refused = new int[7];

    private int refuse(int by) {
        refused[-by]++;
        status = by;
        return by;
    }

    private int grant(int answer) {
        status = 0;
        return answer;
    }

    int wide(int n) {
        if (n < 3 || n > 5) {
            return refuse(-1);
        }
        int were = smith.cells;
        smith.cells = n;
        smith.bar = "3".repeat(n);
        smith.shape = "3".repeat(n);
        return grant(were);
    }

    private boolean canBe(int cell, int iron) {
        return cell >= 0 && cell < smith.cells && iron >= 1 && iron <= 9;
    }

    int bar(int cell, int iron) {
        if (!canBe(cell, iron)) {
            return refuse(-1);
        }
        int was = Smith.iron(smith.bar, cell);
        smith.bar = Smith.with(smith.bar, cell, iron);
        return grant(was);
    }

    int shape(int cell, int iron) {
        if (!canBe(cell, iron)) {
            return refuse(-1);
        }
        int was = Smith.iron(smith.shape, cell);
        smith.shape = Smith.with(smith.shape, cell, iron);
        return grant(was);
    }

    int tongs(int numbers) {
        if (numbers <= 0 || numbers > 1022 || numbers % 2 == 1) {
            return refuse(-1);
        }
        int were = smith.tongs;
        smith.tongs = numbers;
        return grant(were);
    }

    int terms(int what, int value) {
        if (what < 0 || what > 4 || value < LOW[what] || value > HIGH[what]) {
            return refuse(-1);
        }
        int was = smith.terms[what];
        smith.terms[what] = value;
        return grant(was);
    }

    int feed(int... numbers) {
        if (tape.length() > 380) {
            return -1;
        }
        StringBuilder more = new StringBuilder();
        for (int number : numbers) {
            for (int shift = 24; shift >= 0; shift -= 8) {
                more.append((char) (number >> shift & 255));
            }
        }
        tape += more;
        return tape.length();
    }

    int end(int n) {
        if (n < 0 || n > tape.length()) {
            return -1;
        }
        tape = tape.substring(0, n);
        return n;
    }

    int row() {
        String told = tape;
        tape = "";
        if (told.isEmpty() || told.length() > 4 * smith.cells) {
            return refuse(-6);
        }
        int cells = told.length() / 4;
        for (int cell = 0; cell < cells; cell++) {
            String four = told.substring(4 * cell, 4 * cell + 4);
            boolean isIron = four.startsWith("\0\0\0") && four.charAt(3) >= 1 && four.charAt(3) <= 9;
            smith.bar = Smith.with(smith.bar, cell, isIron ? four.charAt(3) : 1);
        }
        return grant(cells);
    }

    int recipe() {
        String text = tape;
        tape = "";
        if (smith.recipes.size() == 8) {
            return refuse(-5);
        }
        fault = Smith.fault(text);
        if (fault >= 0) {
            return refuse(-6);
        }
        smith.recipes.add(text);
        return grant(smith.recipes.size() - 1);
    }

    int fault() {
        return fault;
    }

    private boolean isRecipe(int recipe) {
        return recipe >= 0 && recipe < smith.recipes.size();
    }

    int steps(int recipe) {
        return isRecipe(recipe) ? smith.recipes.get(recipe).split(";").length : -1;
    }

    int run(int recipe) {
        if (!isRecipe(recipe)) {
            return refuse(-2);
        }
        Smith.Round round = smith.run(recipe);
        came = round.came();
        ironBehind = round.iron.clone();
        odds = new long[] {1, 1};
        for (int hold : round.holds) {
            odds[0] *= hold > 0 ? hold : 1;
            odds[1] *= hold > 0 ? 100 : 1;
        }
        return grant(round.gone);
    }

    int came(int what) {
        return came == null || what < 0 || what > 13 ? -1000 : came[what];
    }

    int iron(int cell) {
        return came == null || cell < 0 || cell >= ironBehind.length ? -1 : ironBehind[cell];
    }

    long welds(int part) {
        if (came == null || part < 0 || part > 1) {
            return -1;
        }
        // The lower number is 100 times itself, so nothing but 2 and 5 is in both.
        long over = odds[0];
        long under = odds[1];
        for (int by : new int[] {2, 5}) {
            while (over % by == 0 && under % by == 0) {
                over /= by;
                under /= by;
            }
        }
        return part == 0 ? over : under;
    }

    int plan(int i, int cell) {
        List<String> plan = smith.plan();
        if (plan == null || i < 0 || i >= plan.size() || cell < -1 || cell >= smith.cells) {
            return -1;
        }
        return plan.get(i).charAt(cell < 0 ? 0 : cell + 2) - '0';
    }

    int reached(int heats) {
        return heats < 0 || heats > 6 ? -1 : smith.reached(heats);
    }

    int change(int recipe, int i) {
        return isRecipe(recipe) ? smith.change(recipe, i) : -1;
    }

    int made(int iron, int holes, int folds) {
        int all = (1 << smith.cells) - 1;
        String row = "" + iron;
        boolean isBar = row.length() == smith.cells && row.matches("[1-9]+");
        if (!isBar || holes < 0 || holes > all || folds < 0 || folds > all) {
            return -1;
        }
        return smith.made(row, holes, folds);
    }

    int twelve(int recipe, int slip, int seed, int what) {
        boolean canBe = isRecipe(recipe) && slip >= 0 && slip <= 100 && seed >= 0 && seed <= 1000000;
        return canBe && what >= 0 && what <= 2 ? smith.twelve(recipe, slip, seed, what) : -1;
    }

    int piece(int minutes, int need) {
        if (minutes < 1 || minutes > 200) {
            return refuse(-1);
        }
        if (need != -1 && (need < 0 || need >= smith.pieces.size())) {
            return refuse(-2);
        }
        if (smith.pieces.size() == 8) {
            return refuse(-5);
        }
        smith.pieces.add(new int[] {minutes, need});
        return grant(smith.pieces.size() - 1);
    }

    int soonest(int fires, int what) {
        int[] told = fires < 1 || fires > 3 ? null : smith.soonest(fires);
        return told == null || what < -1 || what >= smith.pieces.size() ? -1 : told[what + 1];
    }

    int image(int k) {
        if (k < 0 || k > 1) {
            return refuse(-1);
        }
        images[k] = smith.copy();
        return grant(0);
    }

    int back(int k) {
        if (k < 0 || k > 1) {
            return refuse(-1);
        }
        if (images[k] == null) {
            return refuse(-2);
        }
        smith = images[k].copy();
        return grant(0);
    }

    int count(int what) {
        int iron = Arrays.stream(smith.bar.split("")).mapToInt(Integer::parseInt).sum();
        int[] all = {smith.cells, smith.recipes.size(), smith.pieces.size(), iron, tape.length(),
            refused[1], refused[2], refused[3], refused[5], refused[6]};
        return what < 0 || what >= all.length ? -1 : all[what];
    }

    int status() {
        return status;
    }
}
