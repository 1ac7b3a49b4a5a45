import java.util.Arrays;

/** A smithy in which iron is led from cell to cell while it is red; see DOC.md for what each call promises. */
public final class HotIron {
    public static final int NONE = -1;

    private static final int NOTHING = -1000;

    private static final int BAD_NUMBER = -1;
    private static final int NOT_THERE = -2;
    private static final int NO_ROOM = -5;
    private static final int BAD_TEXT = -6;

    private static final int FEWEST_CELLS = 3;
    private static final int MOST_CELLS = 5;
    private static final int FIRST_CELLS = 4;
    private static final int MOST_IRON = 9;
    private static final int FIRST_IRON = 3;
    private static final int[] ALL_TWO = {2, 2, 2, 2, 2};
    private static final int ALL_NUMBERS = 0b1111111110;
    private static final int TERMS = 5;
    private static final int BLOWS_TERM = 0;
    private static final int COAL_TERM = 1;
    private static final int HEATING_TERM = 2;
    private static final int STRIKING_TERM = 3;
    private static final int SAND_TERM = 4;
    private static final int[] TERM_LOW = {1, 0, 0, 0, 0};
    private static final int[] TERM_HIGH = {4, 100, 60, 60, 50};

    private static final int TAPE_BYTES = 400;
    private static final int FED_BYTES = 20;
    private static final int INT_BYTES = 4;
    private static final int MOST_RECIPES = 8;
    private static final int MOST_STEPS = 16;
    private static final int MOST_HEATS = 6;
    private static final int MOST_PIECES = 8;
    private static final int MOST_MINUTES = 200;
    private static final int MOST_FIRES = 3;
    private static final int IMAGES = 2;
    private static final int MADE_ALIKE = 12;
    private static final int MOST_SLIP = 100;
    private static final int MOST_SEED = 1_000_000;

    private static final int FIRE = 0;
    private static final int STRIKE = 1;
    private static final int SHOULDER = 2;
    private static final int PUNCH = 3;
    private static final int WELD = 4;
    private static final int GO = 5;

    private static final int NO_PART = 0;
    private static final int CELLS_PART = -1;
    private static final int LEFT_PART = -2;
    private static final int HEATS_PART = -3;
    private static final int STRUCK_PART = -4;
    private static final int IRON_PART = -5;
    private static final int HOT_PART = -6;
    private static final int NOT = -7;
    private static final int PLUS = -8;
    private static final int MINUS = -9;
    private static final int LESS = -10;
    private static final int MORE = -11;
    private static final int SAME = -12;
    private static final int AND = -13;
    private static final int OR = -14;

    private static final int HEATS = 0;
    private static final int BLOWS = 1;
    private static final int MOVES = 2;
    private static final int DUDS = 3;
    private static final int COLD = 4;
    private static final int SCALE = 5;
    private static final int DROPPED = 6;
    private static final int SHOULDERS = 7;
    private static final int HOLES = 8;
    private static final int WELDS = 9;
    private static final int FOLDS = 10;
    private static final int CRACKS = 11;
    private static final int COAL = 12;
    private static final int MINUTES = 13;
    private static final int OUTCOMES = 14;

    private final Smithy now = new Smithy();
    private final Smithy[] images = new Smithy[IMAGES];
    private final byte[] tape = new byte[TAPE_BYTES];
    private int tapeLength = 0;
    private final Reader reader = new Reader();
    private final Run latest = new Run();
    private boolean ran = false;
    private final Run trial = new Run();
    private final Run model = new Run();
    private final int[] twelveIron = new int[MADE_ALIKE * MOST_CELLS];
    private final Planner[] planners = new Planner[MOST_CELLS + 1];
    private final Gate gate = new Gate();
    private final int[] refusals = new int[5];
    private int latestRefusal = 0;

    public HotIron() {
    }

    public int wide(int n) {
        if (n < FEWEST_CELLS || n > MOST_CELLS) {
            return refuse(BAD_NUMBER);
        }
        int were = now.cells;
        now.widen(n);
        return grant(were);
    }

    public int bar(int cell, int iron) {
        return setIron(now.bar, cell, iron);
    }

    public int shape(int cell, int iron) {
        return setIron(now.shape, cell, iron);
    }

    public int tongs(int numbers) {
        if (numbers == 0 || (numbers & ~ALL_NUMBERS) != 0) {
            return refuse(BAD_NUMBER);
        }
        int held = now.held;
        now.held = numbers;
        return grant(held);
    }

    public int terms(int what, int value) {
        if (what < 0 || what >= TERMS || value < TERM_LOW[what] || value > TERM_HIGH[what]) {
            return refuse(BAD_NUMBER);
        }
        int was = now.term[what];
        now.term[what] = value;
        return grant(was);
    }

    public int feed(int a, int b, int c, int d, int e) {
        if (tapeLength + FED_BYTES > TAPE_BYTES) {
            return NONE;
        }
        write(a);
        write(b);
        write(c);
        write(d);
        write(e);
        return tapeLength;
    }

    public int end(int n) {
        if (n < 0 || n > tapeLength) {
            return NONE;
        }
        tapeLength = n;
        return n;
    }

    public int row() {
        int length = tapeLength;
        tapeLength = 0;
        if (length == 0 || (length + INT_BYTES - 1) / INT_BYTES > now.cells) {
            return refuse(BAD_TEXT);
        }
        int told = length / INT_BYTES;
        for (int cell = 0; cell < told && cell < MOST_CELLS; cell++) {
            int iron = intOnTape(cell * INT_BYTES);
            now.bar[cell] = iron < 1 || iron > MOST_IRON ? 1 : iron;
        }
        return grant(told);
    }

    public int recipe() {
        int length = tapeLength;
        tapeLength = 0;
        int number = now.recipeCount;
        if (number >= MOST_RECIPES) {
            return refuse(NO_ROOM);
        }
        if (!reader.understands(tape, length)) {
            return refuse(BAD_TEXT);
        }
        now.recipes[number] = new Recipe(reader);
        now.recipeCount = number + 1;
        return grant(number);
    }

    public int fault() {
        return reader.fault;
    }

    public int steps(int recipe) {
        Recipe r = now.recipeAt(recipe);
        return r == null ? NONE : r.length;
    }

    public int run(int recipe) {
        Recipe r = now.recipeAt(recipe);
        if (r == null) {
            return refuse(NOT_THERE);
        }
        ran = true;
        return grant(latest.carryOut(now, r, NONE));
    }

    public int came(int what) {
        if (!ran || what < 0 || what >= OUTCOMES) {
            return NOTHING;
        }
        return latest.outcome[what];
    }

    public int iron(int cell) {
        if (!ran || cell < 0 || cell >= latest.cells || cell >= MOST_CELLS) {
            return NONE;
        }
        return latest.iron[cell];
    }

    public long welds(int part) {
        if (!ran || part < 0 || part > 1) {
            return NONE;
        }
        return latest.chance(part == 0);
    }

    public int heats() {
        return planner().fewestHeats(now);
    }

    public int plan(int i, int cell) {
        if (i < 0 || i >= MOST_HEATS || cell < NONE || cell >= now.cells) {
            return NONE;
        }
        Planner p = planner();
        p.layPlan(now);
        return p.planned(i, cell);
    }

    public int reached(int heats) {
        if (heats < 0 || heats > MOST_HEATS) {
            return NONE;
        }
        return planner().rowsBehind(now, heats);
    }

    public int even() {
        return planner().leastEven(now);
    }

    public int change(int recipe, int i) {
        Recipe r = now.recipeAt(recipe);
        if (r == null || i < 0 || i >= r.length - 1) {
            return NONE;
        }
        model.carryOut(now, r, NONE);
        trial.carryOut(now, r, i);
        return trial.isLike(model) ? 1 : 0;
    }

    public int made(int iron, int holes, int folds) {
        int all = (1 << now.cells) - 1;
        if ((holes & ~all) != 0 || (folds & ~all) != 0 || !now.tellsBar(iron)) {
            return NONE;
        }
        int makers = 0;
        for (int k = 0; k < now.recipeCount; k++) {
            Recipe r = now.recipeAt(k);
            if (r != null) {
                trial.carryOut(now, r, NONE);
                makers |= trial.endedAs(iron, holes, folds) ? 1 << k : 0;
            }
        }
        return makers;
    }

    public int twelve(int recipe, int slip, int seed, int what) {
        Recipe r = now.recipeAt(recipe);
        if (r == null || slip < 0 || slip > MOST_SLIP || seed < 0 || seed > MOST_SEED || what < 0 || what > 2) {
            return NONE;
        }
        makeTwelve(r, slip, seed);
        if (what == 1) {
            return widestApart();
        }
        if (what == 0) {
            return manyAs(twelveIron);
        }
        trial.carryOut(now, r, NONE);
        return manyAs(trial.iron);
    }

    public int piece(int minutes, int need) {
        if (minutes < 1 || minutes > MOST_MINUTES) {
            return refuse(BAD_NUMBER);
        }
        int number = now.pieceCount;
        if (need < NONE || need >= number) {
            return refuse(NOT_THERE);
        }
        if (number >= MOST_PIECES) {
            return refuse(NO_ROOM);
        }
        now.minutes[number] = minutes;
        now.need[number] = need;
        now.pieceCount = number + 1;
        gate.forget();
        return grant(number);
    }

    public int soonest(int fires, int what) {
        if (fires < 1 || fires > MOST_FIRES || what < NONE || what >= now.pieceCount || now.pieceCount == 0) {
            return NONE;
        }
        return gate.told(now, fires, what);
    }

    public int striker() {
        return planner().savedByBlow(now);
    }

    public int image(int k) {
        if (k < 0 || k >= IMAGES) {
            return refuse(BAD_NUMBER);
        }
        Smithy kept = images[k];
        if (kept == null) {
            kept = new Smithy();
            images[k] = kept;
        }
        kept.copyFrom(now);
        return grant(0);
    }

    public int back(int k) {
        if (k < 0 || k >= IMAGES) {
            return refuse(BAD_NUMBER);
        }
        Smithy kept = images[k];
        if (kept == null) {
            return refuse(NOT_THERE);
        }
        now.copyFrom(kept);
        gate.forget();
        return grant(0);
    }

    public int count(int what) {
        switch (what) {
            case 0:
                return now.cells;
            case 1:
                return now.recipeCount;
            case 2:
                return now.pieceCount;
            case 3:
                return now.ironOf(now.bar);
            case 4:
                return tapeLength;
            default:
                return what >= 5 && what - 5 < refusals.length ? refusals[what - 5] : NONE;
        }
    }

    public int status() {
        return latestRefusal;
    }

    private int refuse(int code) {
        latestRefusal = code;
        // There is no code -4, so those below it stand one place nearer.
        int place = code > -4 ? -1 - code : -2 - code;
        if (place >= 0 && place < refusals.length) {
            refusals[place]++;
        }
        return code;
    }

    private int grant(int answer) {
        latestRefusal = 0;
        return answer;
    }

    private int setIron(int[] cells, int cell, int iron) {
        if (cell < 0 || cell >= now.cells || cell >= cells.length || iron < 1 || iron > MOST_IRON) {
            return refuse(BAD_NUMBER);
        }
        int was = cells[cell];
        cells[cell] = iron;
        return grant(was);
    }

    private void write(int number) {
        for (int shift = 24; shift >= 0 && tapeLength < TAPE_BYTES; shift -= 8) {
            tape[tapeLength] = (byte) (number >> shift);
            tapeLength++;
        }
    }

    private int intOnTape(int from) {
        int number = 0;
        for (int i = from; i < from + INT_BYTES && i >= 0 && i < TAPE_BYTES; i++) {
            number = number << 8 | tape[i] & 255;
        }
        return number;
    }

    /** A planner is large and belongs to one width: it is made when that width first asks for it. */
    private Planner planner() {
        int cells = Math.max(FEWEST_CELLS, Math.min(MOST_CELLS, now.cells));
        Planner p = planners[cells];
        if (p == null) {
            p = new Planner(cells);
            planners[cells] = p;
        }
        return p;
    }

    private void makeTwelve(Recipe r, int slip, int seed) {
        trial.takeHand(slip, seed);
        for (int i = 0; i < MADE_ALIKE; i++) {
            trial.carryOut(now, r, NONE);
            System.arraycopy(trial.iron, 0, twelveIron, i * MOST_CELLS, MOST_CELLS);
        }
        trial.takeHand(NONE, 0);
    }

    /** How many of the TWELVE have the IRON of the row that stands first in rows; nothing but IRON counts. */
    private int manyAs(int[] rows) {
        int many = 0;
        for (int i = 0; i < MADE_ALIKE; i++) {
            many += ironApart(i, rows, 0) == 0 ? 1 : 0;
        }
        return many;
    }

    private int widestApart() {
        int widest = 0;
        for (int i = 0; i < MADE_ALIKE; i++) {
            for (int j = 0; j < i; j++) {
                widest = Math.max(widest, ironApart(i, twelveIron, j));
            }
        }
        return widest;
    }

    private int ironApart(int i, int[] rows, int j) {
        int mine = i * MOST_CELLS;
        int other = j * MOST_CELLS;
        if (mine < 0 || mine + MOST_CELLS > twelveIron.length || other < 0 || other + MOST_CELLS > rows.length) {
            return 0;
        }
        int apart = 0;
        for (int cell = 0; cell < now.cells && cell < MOST_CELLS; cell++) {
            apart += Math.abs(twelveIron[mine + cell] - rows[other + cell]);
        }
        return apart;
    }

    /** All that IMAGES keep. */
    private static final class Smithy {
        int cells = FIRST_CELLS;
        final int[] bar = {FIRST_IRON, FIRST_IRON, FIRST_IRON, FIRST_IRON, FIRST_IRON};
        final int[] shape = {FIRST_IRON, FIRST_IRON, FIRST_IRON, FIRST_IRON, FIRST_IRON};
        int held = ALL_NUMBERS;
        final int[] term = {3, 3, 5, 1, 20};
        final Recipe[] recipes = new Recipe[MOST_RECIPES];
        int recipeCount = 0;
        final int[] minutes = new int[MOST_PIECES];
        final int[] need = new int[MOST_PIECES];
        int pieceCount = 0;

        void widen(int n) {
            cells = n;
            Arrays.fill(bar, FIRST_IRON);
            Arrays.fill(shape, FIRST_IRON);
        }

        void copyFrom(Smithy other) {
            cells = other.cells;
            System.arraycopy(other.bar, 0, bar, 0, MOST_CELLS);
            System.arraycopy(other.shape, 0, shape, 0, MOST_CELLS);
            held = other.held;
            System.arraycopy(other.term, 0, term, 0, TERMS);
            for (int k = 0; k < MOST_RECIPES; k++) {
                recipes[k] = other.recipes[k];
            }
            recipeCount = other.recipeCount;
            System.arraycopy(other.minutes, 0, minutes, 0, MOST_PIECES);
            System.arraycopy(other.need, 0, need, 0, MOST_PIECES);
            pieceCount = other.pieceCount;
        }

        Recipe recipeAt(int number) {
            return number < 0 || number >= recipeCount || number >= MOST_RECIPES ? null : recipes[number];
        }

        int ironOf(int[] row) {
            int sum = 0;
            for (int cell = 0; cell < cells && cell < row.length; cell++) {
                sum += row[cell];
            }
            return sum;
        }

        /** Whether a number has just as many digits as there are CELLS, none of them 0. */
        boolean tellsBar(int number) {
            int rest = number;
            for (int cell = 0; cell < cells; cell++) {
                if (rest <= 0 || rest % 10 == 0) {
                    return false;
                }
                rest /= 10;
            }
            return rest == 0;
        }
    }

    /** A TEXT that was read: of each STEP its kind and the code that leaves its CELLS and then its TEST. */
    private static final class Recipe {
        final int length;
        final int[] kind;
        final int[] start;
        final int[] code;

        Recipe(Reader reader) {
            length = Math.max(0, Math.min(MOST_STEPS, reader.length));
            kind = Arrays.copyOf(reader.kind, length);
            start = Arrays.copyOf(reader.start, length + 1);
            code = Arrays.copyOf(reader.code, Math.max(0, Math.min(Reader.MOST_CODE, reader.codeLength)));
        }
    }

    /** Reads a TEXT: first its tokens, then what they say, up to its FAULT. */
    private static final class Reader {
        static final int MOST_CODE = TAPE_BYTES + MOST_STEPS;
        private static final int MOST_PARTS = 60;
        private static final int MOST_BRACKETS = 8;
        private static final int MOST_NUMBER = 99;

        /** Tokens: a number is its value, a STEP's word lies below STEP_WORD by its kind, a sign below SIGN by its byte. */
        private static final int END = -1;
        private static final int UNKNOWN_WORD = -2;
        private static final int TO_WORD = -3;
        private static final int IF_WORD = -4;
        private static final int OR_WORD = -5;
        private static final int AND_WORD = -6;
        private static final int NOT_WORD = -7;
        private static final int STEP_WORD = -20;
        private static final int PART_WORD = -40;
        private static final int SIGN = -100;
        private static final int BLANK = SIGN - ' ';

        private static final int LETTER = 0;
        private static final int DIGIT = 1;
        private static final int OTHER = 2;

        final int[] code = new int[MOST_CODE];
        int codeLength = 0;
        final int[] start = new int[MOST_STEPS + 1];
        final int[] kind = new int[MOST_STEPS];
        int length = 0;
        int fault = NONE;
        private final int[] token = new int[TAPE_BYTES + 1];
        private final int[] place = new int[TAPE_BYTES + 1];
        private int at = 0;
        private int parts = 0;
        private int brackets = 0;

        boolean understands(byte[] text, int textLength) {
            codeLength = 0;
            length = 0;
            fault = NONE;
            at = 0;
            parts = 0;
            brackets = 0;
            splitTokens(text, Math.max(0, Math.min(TAPE_BYTES, Math.min(text.length, textLength))));
            for (int i = 0; i < MOST_STEPS && fault == NONE; i++) {
                readStep(i);
                if (sees(END)) {
                    return true;
                }
                take(SIGN - ';');
            }
            fail();
            return false;
        }

        private void splitTokens(byte[] text, int textLength) {
            int many = 0;
            int from = 0;
            while (from < textLength && many < TAPE_BYTES) {
                int sort = sortOf(text[from]);
                int to = from + 1;
                while (sort != OTHER && to < textLength && sortOf(text[to]) == sort) {
                    to++;
                }
                int read = sort == LETTER ? wordIn(text, from, to)
                        : sort == DIGIT ? numberIn(text, from, to) : SIGN - (text[from] & 255);
                if (read != BLANK) {
                    token[many] = read;
                    place[many] = from;
                    many++;
                }
                from = to;
            }
            token[many] = END;
            place[many] = textLength;
        }

        private static int sortOf(int sign) {
            if (sign >= 'a' && sign <= 'z') {
                return LETTER;
            }
            return sign >= '0' && sign <= '9' ? DIGIT : OTHER;
        }

        private static int numberIn(byte[] text, int from, int to) {
            int number = 0;
            for (int i = from; i < to && i >= 0 && i < text.length; i++) {
                // Held down, since a row of digits may be longer than an int.
                number = Math.min(1000, number * 10 + text[i] - '0');
            }
            return number;
        }

        private static int wordIn(byte[] text, int from, int to) {
            if (isWord("to", text, from, to)) {
                return TO_WORD;
            } else if (isWord("if", text, from, to)) {
                return IF_WORD;
            } else if (isWord("or", text, from, to)) {
                return OR_WORD;
            } else if (isWord("and", text, from, to)) {
                return AND_WORD;
            } else if (isWord("not", text, from, to)) {
                return NOT_WORD;
            }
            int part = partIn(text, from, to);
            if (part != NO_PART) {
                return PART_WORD + part;
            }
            int step = stepIn(text, from, to);
            return step == NONE ? UNKNOWN_WORD : STEP_WORD - step;
        }

        private static int partIn(byte[] text, int from, int to) {
            if (isWord("iron", text, from, to)) {
                return IRON_PART;
            } else if (isWord("hot", text, from, to)) {
                return HOT_PART;
            } else if (isWord("cells", text, from, to)) {
                return CELLS_PART;
            } else if (isWord("left", text, from, to)) {
                return LEFT_PART;
            } else if (isWord("heats", text, from, to)) {
                return HEATS_PART;
            }
            return isWord("struck", text, from, to) ? STRUCK_PART : NO_PART;
        }

        private static int stepIn(byte[] text, int from, int to) {
            if (isWord("fire", text, from, to)) {
                return FIRE;
            } else if (isWord("strike", text, from, to)) {
                return STRIKE;
            } else if (isWord("shoulder", text, from, to)) {
                return SHOULDER;
            } else if (isWord("punch", text, from, to)) {
                return PUNCH;
            } else if (isWord("weld", text, from, to)) {
                return WELD;
            }
            return isWord("go", text, from, to) ? GO : NONE;
        }

        private static boolean isWord(String word, byte[] text, int from, int to) {
            if (to - from != word.length() || from < 0 || to > text.length) {
                return false;
            }
            for (int i = 0; i < word.length(); i++) {
                if (text[from + i] != word.charAt(i)) {
                    return false;
                }
            }
            return true;
        }

        private void readStep(int i) {
            int which = STEP_WORD - now();
            if (which < FIRE || which > GO || i < 0 || i >= MOST_STEPS) {
                fail();
                return;
            }
            at++;
            kind[i] = which;
            start[i] = codeLength;
            if (which == GO) {
                readNumber(MOST_STEPS - 1);
            } else {
                readSum();
            }
            if (which == STRIKE) {
                take(TO_WORD);
                readSum();
            }
            if (sees(IF_WORD)) {
                at++;
                readTest();
            } else {
                emit(1);
            }
            start[i + 1] = codeLength;
            length = i + 1;
        }

        /** PLAINS joined by "and", and these by "or". */
        private void readTest() {
            boolean more = true;
            for (int i = 0; i < TAPE_BYTES && more; i++) {
                readPlain();
                for (int k = 0; k < TAPE_BYTES && sees(AND_WORD); k++) {
                    at++;
                    readPlain();
                    emit(AND);
                }
                if (i > 0) {
                    emit(OR);
                }
                more = sees(OR_WORD);
                at += more ? 1 : 0;
            }
        }

        private void readPlain() {
            // A loop, not a call of itself: a TEXT may have a hundred "not" one behind the other.
            boolean not = false;
            for (int i = 0; i < TAPE_BYTES && sees(NOT_WORD); i++) {
                at++;
                not = !not;
            }
            if (sees(SIGN - '(')) {
                if (enters('(')) {
                    readTest();
                    brackets--;
                    take(SIGN - ')');
                }
            } else {
                readSum();
                int sign = sees(SIGN - '<') ? LESS : sees(SIGN - '>') ? MORE : SAME;
                take(sign == LESS ? SIGN - '<' : sign == MORE ? SIGN - '>' : SIGN - '=');
                readSum();
                emit(sign);
            }
            if (not) {
                emit(NOT);
            }
        }

        private void readSum() {
            readPart();
            for (int i = 0; i < TAPE_BYTES && (sees(SIGN - '+') || sees(SIGN - '-')); i++) {
                int sign = sees(SIGN - '+') ? PLUS : MINUS;
                at++;
                readPart();
                emit(sign);
            }
        }

        private void readPart() {
            if (parts >= MOST_PARTS) {
                fail();
            }
            if (fault != NONE) {
                return;
            }
            parts++;
            int part = now() - PART_WORD;
            if (sees(SIGN - '[')) {
                if (enters('[')) {
                    readSum();
                    brackets--;
                    take(SIGN - ']');
                }
            } else if (part == IRON_PART || part == HOT_PART) {
                at++;
                if (enters('(')) {
                    readSum();
                    brackets--;
                    take(SIGN - ')');
                    emit(part);
                }
            } else if (part <= CELLS_PART && part >= STRUCK_PART) {
                at++;
                emit(part);
            } else {
                readNumber(MOST_NUMBER);
            }
        }

        /** Like the ones below it calls no other, so that calls do not go too deep. */
        private void readNumber(int most) {
            if (fault != NONE || at < 0 || at >= token.length) {
                return;
            }
            if (token[at] < 0 || token[at] > most || codeLength >= MOST_CODE) {
                fault = place[at];
                return;
            }
            code[codeLength] = token[at];
            codeLength++;
            at++;
        }

        /** Whether that bracket stands here and may be one more within the others. */
        private boolean enters(int sign) {
            if (fault != NONE || at < 0 || at >= token.length) {
                return false;
            }
            if (token[at] != SIGN - sign || brackets >= MOST_BRACKETS) {
                fault = place[at];
                return false;
            }
            brackets++;
            at++;
            return true;
        }

        private void take(int what) {
            if (fault != NONE || at < 0 || at >= token.length) {
                return;
            }
            if (token[at] == what) {
                at++;
            } else {
                fault = place[at];
            }
        }

        private void emit(int what) {
            if (codeLength < MOST_CODE) {
                code[codeLength] = what;
                codeLength++;
            }
        }

        private void fail() {
            if (fault == NONE && at >= 0 && at < place.length) {
                fault = place[at];
            }
        }

        /** Behind a FAULT no token is seen, so that reading comes to its end. */
        private boolean sees(int what) {
            return fault == NONE && at >= 0 && at < token.length && token[at] == what;
        }

        private int now() {
            return fault == NONE && at >= 0 && at < token.length ? token[at] : END;
        }
    }

    /** A RUN of a RECIPE and what came of it. */
    private static final class Run {
        private static final int MOST_GONE = 100;
        private static final int STACK = 64;
        private static final int HUNDRED = 100;

        int cells = 0;
        final int[] iron = new int[MOST_CELLS];
        final int[] outcome = new int[OUTCOMES];
        private final int[] punched = new int[MOST_CELLS];
        private final int[] hold = new int[MOST_CELLS];
        private int hotAt = NONE;
        private int left = 0;
        private final int[] stack = new int[STACK];
        private int top = 0;
        private int slip = NONE;
        private int drawn = 0;

        /** The hand of the next RUNS: by how much it slips (NONE: it does not draw), and the SEED. */
        void takeHand(int bySlip, int seed) {
            slip = bySlip;
            drawn = seed;
        }

        /** STEPS swapped and the next one stand exchanged (NONE: none); how many were gone through. */
        int carryOut(Smithy smithy, Recipe recipe, int swapped) {
            begin(smithy);
            int gone = 0;
            int at = 0;
            while (gone < MOST_GONE && at >= 0 && at < recipe.length) {
                gone++;
                int step = swapped == NONE ? at : at == swapped ? at + 1 : at == swapped + 1 ? swapped : at;
                at = pass(smithy, recipe, step, at);
            }
            outcome[COAL] = outcome[HEATS] * smithy.term[COAL_TERM];
            outcome[MINUTES] = outcome[HEATS] * smithy.term[HEATING_TERM]
                    + outcome[BLOWS] * smithy.term[STRIKING_TERM];
            return gone;
        }

        boolean isLike(Run other) {
            boolean like = cells == other.cells;
            for (int cell = 0; cell < cells && cell < MOST_CELLS; cell++) {
                like &= iron[cell] == other.iron[cell];
            }
            for (int what = SHOULDERS; what <= CRACKS; what++) {
                like &= outcome[what] == other.outcome[what];
            }
            return like;
        }

        boolean endedAs(int number, int holes, int folds) {
            int told = 0;
            for (int cell = 0; cell < cells && cell < MOST_CELLS; cell++) {
                told = told * 10 + iron[cell];
            }
            return told == number && outcome[HOLES] == holes && outcome[FOLDS] == folds
                    && outcome[DROPPED] == NONE;
        }

        long chance(boolean upper) {
            long over = 1;
            long under = 1;
            for (int cell = 0; cell < MOST_CELLS; cell++) {
                if ((outcome[WELDS] >> cell & 1) != 0) {
                    over *= hold[cell];
                    under *= HUNDRED;
                }
            }
            long common = commonDivisor(over, under);
            if (common < 1) {
                return NONE;
            }
            return (upper ? over : under) / common;
        }

        private static long commonDivisor(long a, long b) {
            long large = a;
            long small = b;
            for (int i = 0; i < 200 && small != 0; i++) {
                long rest = large % small;
                large = small;
                small = rest;
            }
            return large;
        }

        private void begin(Smithy smithy) {
            cells = Math.min(MOST_CELLS, smithy.cells);
            System.arraycopy(smithy.bar, 0, iron, 0, MOST_CELLS);
            Arrays.fill(outcome, 0);
            outcome[DROPPED] = NONE;
            Arrays.fill(punched, 0);
            Arrays.fill(hold, 0);
            hotAt = NONE;
            left = 0;
        }

        /** One STEP, which stands at the place at: the place that is next. */
        private int pass(Smithy smithy, Recipe recipe, int step, int at) {
            if (step < 0 || step >= recipe.length) {
                return recipe.length;
            }
            reckon(recipe, step);
            if (top < 1 || stack[top - 1] == 0) {
                return at + 1;
            }
            int place = stack[0];
            switch (recipe.kind[step]) {
                case FIRE:
                    if (!fire(smithy, place)) {
                        outcome[DROPPED] = at;
                        return recipe.length;
                    }
                    break;
                case STRIKE:
                    strike(place, stack[1]);
                    break;
                case SHOULDER:
                    shoulder(place);
                    break;
                case PUNCH:
                    punch(place);
                    break;
                case WELD:
                    weld(place, smithy.term[SAND_TERM]);
                    break;
                default:
                    return place;
            }
            return at + 1;
        }

        /** Whether the RUN goes on. */
        private boolean fire(Smithy smithy, int cell) {
            if (!isThere(cell)) {
                outcome[DUDS]++;
                return true;
            }
            boolean held = false;
            for (int c = 0; c < cells && c < MOST_CELLS; c++) {
                held |= Math.abs(c - cell) > 1 && (smithy.held >> iron[c] & 1) != 0;
            }
            if (!held) {
                return false;
            }
            outcome[HEATS]++;
            hotAt = cell;
            left = smithy.term[BLOWS_TERM];
            loseIron(cell);
            return true;
        }

        private void strike(int from, int to) {
            if (!isThere(from) || !isThere(to) || Math.abs(from - to) != 1) {
                outcome[DUDS]++;
            } else if (useBlow(from, isHot(from) || isHot(to))) {
                boolean parted = (outcome[SHOULDERS] >> Math.min(from, to) & 1) != 0;
                if (iron[from] < 2 || iron[to] >= MOST_IRON || parted || slips()) {
                    outcome[DUDS]++;
                } else {
                    moveIron(from, to);
                }
            }
        }

        private void moveIron(int from, int to) {
            iron[from]--;
            iron[to]++;
            outcome[MOVES]++;
            if (iron[to] > 2 * iron[from]) {
                outcome[FOLDS] |= 1 << to;
            }
        }

        private void shoulder(int cell) {
            if (!isThere(cell) || !isThere(cell + 1)) {
                outcome[DUDS]++;
            } else if (useBlow(cell, isHot(cell))) {
                outcome[SHOULDERS] |= 1 << cell;
            }
        }

        private void punch(int cell) {
            if (!isThere(cell)) {
                outcome[DUDS]++;
            } else if (useBlow(cell, isHot(cell))) {
                punched[cell]++;
                if (punched[cell] == 2) {
                    outcome[HOLES] |= 1 << cell;
                    loseIron(cell);
                }
            }
        }

        private void weld(int cell, int sand) {
            if (!isThere(cell) || !isThere(cell + 1)) {
                outcome[DUDS]++;
            } else if (useBlow(cell, hotAt != NONE && (hotAt == cell || hotAt == cell + 1))) {
                // A HEAT at one of both makes both HOT, so nothing more is asked.
                outcome[WELDS] |= 1 << cell;
                hold[cell] = Math.min(HUNDRED, 30 + 10 * left + sand);
            }
        }

        /** Uses a BLOW, or else the CELL CRACKS. */
        private boolean useBlow(int cell, boolean hot) {
            if (left < 1 || !hot) {
                outcome[COLD]++;
                outcome[CRACKS] |= 1 << cell;
                return false;
            }
            left--;
            outcome[BLOWS]++;
            return true;
        }

        private void loseIron(int cell) {
            if (iron[cell] > 1) {
                iron[cell]--;
                outcome[SCALE]++;
            }
        }

        private boolean slips() {
            if (slip == NONE) {
                return false;
            }
            drawn = (drawn * 1103 + 12345) % 1_000_003;
            return drawn % 100 < slip;
        }

        private boolean isThere(int cell) {
            return cell >= 0 && cell < cells && cell < MOST_CELLS;
        }

        private boolean isHot(int cell) {
            return hotAt != NONE && isThere(cell) && Math.abs(cell - hotAt) <= 1;
        }

        /** Leaves on the stack the CELLS that a STEP names and, topmost, its TEST. */
        private void reckon(Recipe recipe, int step) {
            top = 0;
            if (step < 0 || step + 1 >= recipe.start.length) {
                return;
            }
            for (int i = recipe.start[step]; i < recipe.start[step + 1]; i++) {
                int what = i < 0 || i >= recipe.code.length ? 0 : recipe.code[i];
                if (what >= STRUCK_PART) {
                    push(partValue(what));
                } else if (what >= NOT) {
                    int value = pop();
                    push(what == NOT ? 1 - value : cellValue(what, value));
                } else {
                    int second = pop();
                    push(joined(what, pop(), second));
                }
            }
        }

        private int partValue(int what) {
            switch (what) {
                case CELLS_PART:
                    return cells;
                case LEFT_PART:
                    return left;
                case HEATS_PART:
                    return outcome[HEATS];
                case STRUCK_PART:
                    return outcome[BLOWS];
                default:
                    return what;
            }
        }

        private int cellValue(int what, int cell) {
            if (what == HOT_PART) {
                return isHot(cell) ? 1 : 0;
            }
            return isThere(cell) ? iron[cell] : 0;
        }

        private static int joined(int what, int first, int second) {
            switch (what) {
                case PLUS:
                    return first + second;
                case MINUS:
                    return first - second;
                case LESS:
                    return first < second ? 1 : 0;
                case MORE:
                    return first > second ? 1 : 0;
                case SAME:
                    return first == second ? 1 : 0;
                case AND:
                    return first & second;
                default:
                    return first | second;
            }
        }

        private void push(int value) {
            if (top < STACK) {
                stack[top] = value;
                top++;
            }
        }

        private int pop() {
            if (top < 1) {
                return 0;
            }
            top--;
            return stack[top];
        }
    }

    /**
     * Sets of rows of IRON, as bits: a row's number has a digit of base 9 for each CELL, CELL 0 the highest,
     * so that the lowest number is the first row, and a MOVE adds the same to each row's number.
     */
    private static final class Forge {
        private static final int TWO_AND_MORE = 0b1111111100;
        private static final int EIGHT_AND_LESS = 0b0111111110;

        final int cells;
        final int words;
        private final int[] weight;
        private final long[][] giving;
        private final long[][] taking;
        private final long[][] heatable;
        private int heatableFor = 0;
        private final long[] front;
        private final long[] next;
        private final long[] between;

        Forge(int many) {
            cells = Math.max(FEWEST_CELLS, Math.min(MOST_CELLS, many));
            weight = new int[cells];
            int rows = 1;
            for (int cell = cells - 1; cell >= 0; cell--) {
                weight[cell] = rows;
                rows *= MOST_IRON;
            }
            words = (rows + 63) / 64;
            giving = new long[cells][words];
            taking = new long[cells][words];
            heatable = new long[cells][words];
            front = new long[words];
            next = new long[words];
            between = new long[words];
            for (int cell = 0; cell < cells; cell++) {
                findRows(cell, TWO_AND_MORE, giving[cell]);
                findRows(cell, EIGHT_AND_LESS, taking[cell]);
            }
        }

        int numberOf(int[] row) {
            int number = 0;
            for (int cell = 0; cell < cells && cell < row.length; cell++) {
                number += (row[cell] - 1) * weight[cell];
            }
            return number;
        }

        int ironIn(int number, int cell) {
            if (cell < 0 || cell >= cells || weight[cell] < 1) {
                return NONE;
            }
            return number / weight[cell] % MOST_IRON + 1;
        }

        /** Which HEATS can be done depends on what TONGS hold. */
        void takeTongs(int numbers) {
            if (heatableFor == numbers) {
                return;
            }
            heatableFor = numbers;
            for (int at = 0; at < cells; at++) {
                Arrays.fill(heatable[at], 0L);
            }
            for (int cell = 0; cell < cells; cell++) {
                findRows(cell, numbers, next);
                for (int at = 0; at < cells; at++) {
                    if (Math.abs(at - cell) > 1) {
                        addAll(next, heatable[at]);
                    }
                }
            }
        }

        /** Rows behind a HEAT at a CELL with its MOVES, from one of those told. */
        void follow(long[] from, int at, int blows, long[] to) {
            heat(from, at, to);
            spread(to, at, blows);
        }

        /** Rows ahead of a HEAT at a CELL with its MOVES, that lead to one of those told. */
        void trace(long[] from, int at, int blows, long[] to) {
            System.arraycopy(from, 0, between, 0, words);
            // A MOVE is undone by the MOVE that goes back.
            spread(between, at, blows);
            unheat(between, at, to);
        }

        static void addAll(long[] from, long[] to) {
            for (int w = 0; w < from.length && w < to.length; w++) {
                to[w] |= from[w];
            }
        }

        /** Keeps in a set what another has, too: whether there is any. */
        static boolean keepCommon(long[] set, long[] other) {
            long any = 0;
            for (int w = 0; w < set.length && w < other.length; w++) {
                set[w] &= other[w];
                any |= set[w];
            }
            return any != 0;
        }

        static boolean meet(long[] one, long[] other) {
            for (int w = 0; w < one.length && w < other.length; w++) {
                if ((one[w] & other[w]) != 0) {
                    return true;
                }
            }
            return false;
        }

        static int sizeOf(long[] set) {
            int size = 0;
            for (int w = 0; w < set.length; w++) {
                size += Long.bitCount(set[w]);
            }
            return size;
        }

        static int lowestIn(long[] set) {
            for (int w = 0; w < set.length; w++) {
                if (set[w] != 0) {
                    return w * 64 + Long.bitCount((set[w] & -set[w]) - 1);
                }
            }
            return NONE;
        }

        static void setOnly(long[] set, int number) {
            Arrays.fill(set, 0L);
            int word = number >> 6;
            if (word >= 0 && word < set.length) {
                set[word] = 1L << (number & 63);
            }
        }

        private void heat(long[] from, int at, long[] to) {
            for (int w = 0; w < words; w++) {
                to[w] = from[w] & heatable[at][w] & ~giving[at][w];
            }
            shift(from, heatable[at], giving[at], -weight[at], to);
        }

        private void unheat(long[] from, int at, long[] to) {
            for (int w = 0; w < words; w++) {
                to[w] = from[w] & ~giving[at][w];
            }
            shift(from, taking[at], taking[at], weight[at], to);
            keepCommon(to, heatable[at]);
        }

        /** Adds to a set the rows that at most so many MOVES in a HEAT at a CELL lead to. */
        private void spread(long[] set, int at, int blows) {
            System.arraycopy(set, 0, front, 0, words);
            boolean fresh = true;
            for (int b = 0; b < blows && fresh; b++) {
                Arrays.fill(next, 0L);
                for (int cell = Math.max(0, at - 2); cell <= at + 1 && cell + 1 < cells; cell++) {
                    int by = weight[cell] - weight[cell + 1];
                    shift(front, giving[cell], taking[cell + 1], -by, next);
                    shift(front, giving[cell + 1], taking[cell], by, next);
                }
                long any = 0;
                for (int w = 0; w < words; w++) {
                    long rows = next[w] & ~set[w];
                    front[w] = rows;
                    set[w] |= rows;
                    any |= rows;
                }
                fresh = any != 0;
            }
        }

        /** Adds to a set the rows that are in all of three others, their numbers higher by so much. */
        private static void shift(long[] from, long[] one, long[] other, int by, long[] to) {
            int wordsBy = by >> 6;
            int up = by & 63;
            for (int w = 0; w < from.length && w < one.length && w < other.length; w++) {
                long rows = from[w];
                if (rows != 0) {
                    rows &= one[w] & other[w];
                    int t = w + wordsBy;
                    if (t >= 0 && t < to.length) {
                        to[t] |= rows << up;
                    }
                    if (up != 0 && t + 1 >= 0 && t + 1 < to.length) {
                        to[t + 1] |= rows >>> 64 - up;
                    }
                }
            }
        }

        /** The rows in which a CELL has one of these numbers of IRON. */
        private void findRows(int cell, int numbers, long[] to) {
            Arrays.fill(to, 0L);
            // The digit comes again after 9 weights of bits; these are odd, so words come again after as many words.
            int period = MOST_IRON * weight[cell];
            int bits = Math.min(words, period) * 64;
            int number = 1;
            for (int from = 0; from < bits; from += Math.max(1, weight[cell])) {
                if ((numbers >> number & 1) != 0) {
                    setBits(to, from, Math.min(bits, from + weight[cell]));
                }
                number = number == MOST_IRON ? 1 : number + 1;
            }
            for (int w = Math.max(1, period); w < words; w++) {
                to[w] = to[w - period];
            }
        }

        private static void setBits(long[] set, int from, int to) {
            int at = Math.max(0, from);
            while (at < to && at >> 6 < set.length) {
                int many = Math.min(64 - (at & 63), to - at);
                long ones = many == 64 ? -1L : (1L << many) - 1;
                set[at >> 6] |= ones << (at & 63);
                at += many;
            }
        }
    }

    /** The sets of rows behind 0, 1, 2 .. HEATS from one row, or ahead of as many that lead to it. */
    private static final class Levels {
        private final Forge forge;
        private final boolean onward;
        private final long[][] level;
        private final long[] work;
        private int known = 0;
        private int root = NONE;
        private int numbers = 0;
        private int blows = 0;

        Levels(Forge theForge, boolean goesOnward, int many) {
            forge = theForge;
            onward = goesOnward;
            level = new long[Math.max(1, many)][theForge.words];
            work = new long[theForge.words];
        }

        void aim(int theRoot, int theNumbers, int theBlows) {
            if (known > 0 && root == theRoot && numbers == theNumbers && blows == theBlows) {
                return;
            }
            root = theRoot;
            numbers = theNumbers;
            blows = theBlows;
            Forge.setOnly(level[0], theRoot);
            known = 1;
        }

        long[] at(int heats) {
            int wanted = Math.max(0, Math.min(level.length - 1, heats));
            for (int k = Math.max(1, known); k <= wanted; k++) {
                Arrays.fill(level[k], 0L);
                for (int cell = 0; cell < forge.cells; cell++) {
                    if (onward) {
                        forge.follow(level[k - 1], cell, blows, work);
                    } else {
                        forge.trace(level[k - 1], cell, blows, work);
                    }
                    Forge.addAll(work, level[k]);
                }
                known = k + 1;
            }
            return level[wanted];
        }
    }

    /** PLANS, REACHED rows and EVEN of BARS of one width. */
    private static final class Planner {
        private final Forge forge;
        private final Levels ahead;
        private final Levels behind;
        private final Levels otherAhead;
        private final Levels otherBehind;
        private final long[][] path;
        private final long[] work;
        private final int[] planCell = new int[MOST_HEATS];
        private final int[] planRow = new int[MOST_HEATS];
        private int planHeats = NONE;
        private long planKey = NONE;
        private int evenIron = NONE;
        private long evenKey = NONE;

        Planner(int cells) {
            forge = new Forge(cells);
            // PLANS meet in their middle, so only where whole ones are followed must all levels be.
            int half = MOST_HEATS / 2 + 1;
            ahead = new Levels(forge, true, MOST_HEATS + 1);
            behind = new Levels(forge, false, MOST_HEATS + 1);
            otherAhead = new Levels(forge, true, half);
            otherBehind = new Levels(forge, false, half);
            path = new long[MOST_HEATS + 1][forge.words];
            work = new long[forge.words];
        }

        int fewestHeats(Smithy smithy) {
            aimAt(smithy);
            return fewest(ahead, behind, smithy.ironOf(smithy.bar) - smithy.ironOf(smithy.shape));
        }

        int planned(int i, int cell) {
            if (i < 0 || i >= planHeats || i >= MOST_HEATS) {
                return NONE;
            }
            return cell == NONE ? planCell[i] : forge.ironIn(planRow[i], cell);
        }

        int rowsBehind(Smithy smithy, int heats) {
            aimAt(smithy);
            return Forge.sizeOf(ahead.at(heats));
        }

        int leastEven(Smithy smithy) {
            aimAt(smithy);
            int blows = smithy.term[BLOWS_TERM];
            long key = keyOf(0, forge.numberOf(smithy.shape), smithy.held, blows);
            if (key != evenKey) {
                evenKey = key;
                evenIron = NONE;
                int oneMore = forge.numberOf(ALL_TWO);
                for (int iron = 1; iron <= MOST_IRON && evenIron == NONE; iron++) {
                    otherAhead.aim(oneMore * (iron - 1), smithy.held, blows);
                    int lost = iron * forge.cells - smithy.ironOf(smithy.shape);
                    evenIron = fewest(otherAhead, behind, lost) == NONE ? NONE : iron;
                }
            }
            return evenIron;
        }

        int savedByBlow(Smithy smithy) {
            int lost = smithy.ironOf(smithy.bar) - smithy.ironOf(smithy.shape);
            aimAt(smithy);
            int many = fewest(ahead, behind, lost);
            if (many == NONE) {
                return NONE;
            }
            int blows = smithy.term[BLOWS_TERM] + 1;
            otherAhead.aim(forge.numberOf(smithy.bar), smithy.held, blows);
            otherBehind.aim(forge.numberOf(smithy.shape), smithy.held, blows);
            int fewer = fewest(otherAhead, otherBehind, lost);
            return fewer == NONE ? NONE : many - fewer;
        }

        private void aimAt(Smithy smithy) {
            forge.takeTongs(smithy.held);
            ahead.aim(forge.numberOf(smithy.bar), smithy.held, smithy.term[BLOWS_TERM]);
            behind.aim(forge.numberOf(smithy.shape), smithy.held, smithy.term[BLOWS_TERM]);
        }

        private static long keyOf(int bar, int shape, int held, int blows) {
            return (((long) bar << 20 | shape) << 10 | held) << 4 | blows;
        }

        /** A HEAT loses one IRON at most, so there are at least as many HEATS as IRON is lost. */
        private static int fewest(Levels from, Levels to, int lost) {
            if (lost < 0) {
                return NONE;
            }
            for (int heats = lost; heats <= MOST_HEATS; heats++) {
                if (Forge.meet(from.at(heats / 2), to.at(heats - heats / 2))) {
                    return heats;
                }
            }
            return NONE;
        }

        /** The PLAN is found once for what stands, since it is asked for bit by bit. */
        void layPlan(Smithy smithy) {
            int bar = forge.numberOf(smithy.bar);
            int shape = forge.numberOf(smithy.shape);
            int blows = smithy.term[BLOWS_TERM];
            long key = keyOf(bar, shape, smithy.held, blows);
            if (key == planKey) {
                return;
            }
            planKey = key;
            aimAt(smithy);
            planHeats = fewest(ahead, behind, smithy.ironOf(smithy.bar) - smithy.ironOf(smithy.shape));
            if (planHeats > 0) {
                chooseCells(bar, blows);
                trimPath(blows);
                chooseRows(bar, blows);
            }
        }

        /** Leaves in path the rows that can be behind each HEAT, if the CELLS up to it are those chosen. */
        private void chooseCells(int bar, int blows) {
            Forge.setOnly(path[0], bar);
            for (int i = 0; i < planHeats && i < MOST_HEATS; i++) {
                boolean found = false;
                for (int cell = 0; cell < forge.cells && !found; cell++) {
                    forge.follow(path[i], cell, blows, path[i + 1]);
                    found = Forge.keepCommon(path[i + 1], behind.at(planHeats - i - 1));
                    planCell[i] = cell;
                }
            }
        }

        /** Keeps in path the rows alone from which the chosen CELLS still lead to the SHAPE. */
        private void trimPath(int blows) {
            for (int i = Math.min(planHeats, MOST_HEATS) - 1; i > 0; i--) {
                forge.trace(path[i + 1], planCell[i], blows, work);
                Forge.keepCommon(path[i], work);
            }
        }

        private void chooseRows(int bar, int blows) {
            for (int i = 0; i < planHeats && i < MOST_HEATS; i++) {
                Forge.setOnly(path[0], i == 0 ? bar : planRow[i - 1]);
                forge.follow(path[0], planCell[i], blows, work);
                Forge.keepCommon(work, path[i + 1]);
                planRow[i] = Forge.lowestIn(work);
            }
        }
    }

    /** SOONEST of the GATE's PIECES. */
    private static final class Gate {
        private static final int NEVER = 1_000_000;

        private final int[] minutes = new int[MOST_PIECES];
        private final int[] need = new int[MOST_PIECES];
        private final int[] chain = new int[MOST_PIECES];
        private final int[] begins = new int[MOST_PIECES];
        private final int[] ends = new int[MOST_PIECES];
        private final int[] free = new int[MOST_FIRES];
        private final int[] done = new int[MOST_FIRES + 1];
        private final int[][] chosen = new int[MOST_FIRES + 1][MOST_PIECES];
        private int pieces = 0;
        private int fires = 0;

        /** What is known of the GATE does not hold for another one. */
        void forget() {
            Arrays.fill(done, 0);
        }

        int told(Smithy smithy, int many, int what) {
            if (many < 1 || many > MOST_FIRES || what >= MOST_PIECES) {
                return NONE;
            }
            if (done[many] == 0) {
                search(smithy, many);
            }
            return what < 0 ? done[many] : chosen[many][what];
        }

        private void search(Smithy smithy, int many) {
            pieces = Math.min(MOST_PIECES, smithy.pieceCount);
            fires = many;
            System.arraycopy(smithy.minutes, 0, minutes, 0, MOST_PIECES);
            System.arraycopy(smithy.need, 0, need, 0, MOST_PIECES);
            Arrays.fill(free, 0);
            int all = 0;
            for (int i = 0; i < pieces; i++) {
                all += minutes[i];
            }
            measureChains();
            done[many] = NEVER;
            place(0, 0, all, NONE, NONE);
        }

        /** A chain: the minutes of a PIECE and of the longest row of those that wait for it. */
        private void measureChains() {
            Arrays.fill(chain, 0);
            for (int i = pieces - 1; i >= 0; i--) {
                chain[i] += minutes[i];
                int first = need[i];
                if (first >= 0 && first < i) {
                    chain[first] = Math.max(chain[first], chain[i]);
                }
            }
        }

        /** Rows are tried from the first on, so only one that is sooner takes the place of another. */
        private void place(int depth, int placed, int rest, int before, int beforeFree) {
            int latest = latestFree();
            if (depth >= pieces || depth >= MOST_PIECES) {
                if (latest < done[fires]) {
                    done[fires] = latest;
                    System.arraycopy(begins, 0, chosen[fires], 0, MOST_PIECES);
                }
                return;
            }
            int fire = freeFirst();
            int was = free[fire];
            if (latest >= done[fires] || bound(placed, rest, was) >= done[fires]) {
                return;
            }
            for (int i = 0; i < pieces; i++) {
                // Two on fires that are free at once begin alike in either order: the one with the lower first was tried.
                boolean triedAlready = i < before && was == beforeFree;
                if ((placed >> i & 1) == 0 && isReady(i, placed) && !triedAlready) {
                    begins[i] = earliest(i, was);
                    ends[i] = begins[i] + minutes[i];
                    free[fire] = ends[i];
                    place(depth + 1, placed | 1 << i, rest - minutes[i], i, was);
                    free[fire] = was;
                }
            }
        }

        /** No row that goes on from here is done sooner. */
        private int bound(int placed, int rest, int soonestFree) {
            int work = rest;
            for (int f = 0; f < fires && f < MOST_FIRES; f++) {
                work += free[f];
            }
            int least = fires < 1 ? work : (work + fires - 1) / fires;
            for (int i = 0; i < pieces; i++) {
                if ((placed >> i & 1) == 0 && isReady(i, placed)) {
                    least = Math.max(least, earliest(i, soonestFree) + chain[i]);
                }
            }
            return least;
        }

        private boolean isReady(int i, int placed) {
            return need[i] < 0 || (placed >> need[i] & 1) != 0;
        }

        private int earliest(int i, int whenFree) {
            int first = need[i];
            return first >= 0 && first < MOST_PIECES ? Math.max(whenFree, ends[first]) : whenFree;
        }

        private int latestFree() {
            int latest = 0;
            for (int f = 0; f < fires && f < MOST_FIRES; f++) {
                latest = Math.max(latest, free[f]);
            }
            return latest;
        }

        private int freeFirst() {
            int first = 0;
            for (int f = 1; f < fires && f < MOST_FIRES; f++) {
                if (free[f] < free[first]) {
                    first = f;
                }
            }
            return first;
        }
    }
}
