import java.util.ArrayDeque;
import java.util.ArrayList;
import java.util.Arrays;
import java.util.Deque;
import java.util.HashMap;
import java.util.HashSet;
import java.util.List;
import java.util.Map;
import java.util.Set;
import java.util.TreeSet;
import java.util.regex.Matcher;
import java.util.regex.Pattern;

/** The document once more, in the plainest way there is and without a thought of room or time: rows are texts of digits. */
final class Smith {
    int cells = 4;
    String bar = "3333";
    String shape = "3333";
    int tongs = 1022;
    int[] terms = {3, 3, 5, 1, 20};
    List<String> recipes = new ArrayList<>();
    List<int[]> pieces = new ArrayList<>();
    /** Holds for every Smith, so copies share it. */
    private Map<String, TreeSet<String>> known = new HashMap<>();

    Smith copy() {
        Smith other = new Smith();
        other.cells = cells;
        other.bar = bar;
        other.shape = shape;
        other.tongs = tongs;
        other.terms = terms.clone();
        other.recipes.addAll(recipes);
        other.pieces.addAll(pieces);
        other.known = known;
        return other;
    }

    static boolean beside(int a, int b) {
        return Math.abs(a - b) == 1;
    }

    static int iron(String row, int cell) {
        return row.charAt(cell) - '0';
    }

    static String with(String row, int cell, int iron) {
        return row.substring(0, cell) + iron + row.substring(cell + 1);
    }

    boolean canHeat(String row, int p) {
        for (int c = 0; c < row.length(); c++) {
            if (c != p && !beside(c, p) && (tongs >> iron(row, c)) % 2 == 1) {
                return true;
            }
        }
        return false;
    }

    static String scaled(String row, int p) {
        return iron(row, p) > 1 ? with(row, p, iron(row, p) - 1) : row;
    }

    /** All rows behind a HEAT at p; known ones are told again, since plans ask for the same ones often. */
    TreeSet<String> behindHeat(String row, int p, int blows) {
        return known.computeIfAbsent(row + p + blows + " " + tongs, key -> rowsBehindHeat(row, p, blows));
    }

    private TreeSet<String> rowsBehindHeat(String row, int p, int blows) {
        TreeSet<String> all = new TreeSet<>();
        if (!canHeat(row, p)) {
            return all;
        }
        all.add(scaled(row, p));
        for (int b = 0; b < blows; b++) {
            for (String r : new ArrayList<>(all)) {
                for (int from = 0; from < r.length(); from++) {
                    for (int to = 0; to < r.length(); to++) {
                        boolean hot = from == p || beside(from, p) || to == p || beside(to, p);
                        if (beside(from, to) && hot && iron(r, from) >= 2 && iron(r, to) < 9) {
                            all.add(with(with(r, from, iron(r, from) - 1), to, iron(r, to) + 1));
                        }
                    }
                }
            }
        }
        return all;
    }

    Set<String> behindHeats(Set<String> rows, int blows) {
        Set<String> all = new HashSet<>();
        for (String row : rows) {
            for (int p = 0; p < row.length(); p++) {
                all.addAll(behindHeat(row, p, blows));
            }
        }
        return all;
    }

    int reached(int heats) {
        Set<String> rows = new HashSet<>(Set.of(bar));
        for (int k = 0; k < heats; k++) {
            rows = behindHeats(rows, terms[0]);
        }
        return rows.size();
    }

    int heats(String from, int blows) {
        Set<String> rows = new HashSet<>(Set.of(from));
        for (int k = 0; k <= 6; k++) {
            if (rows.contains(shape)) {
                return k;
            }
            rows = behindHeats(rows, blows);
        }
        return -1;
    }

    int even() {
        for (int iron = 1; iron <= 9; iron++) {
            if (heats(("" + iron).repeat(cells), terms[0]) >= 0) {
                return iron;
            }
        }
        return -1;
    }

    int striker() {
        int now = heats(bar, terms[0]);
        int then = heats(bar, terms[0] + 1);
        return now < 0 || then < 0 ? -1 : now - then;
    }

    /** Each HEAT of the PLAN as its CELL and the row behind it, such as "0:2333"; null without. */
    List<String> plan() {
        int many = heats(bar, terms[0]);
        if (many < 0) {
            return null;
        }
        String places = firstPlaces(new HashSet<>(Set.of(bar)), "", many);
        List<String> plan = new ArrayList<>();
        String row = bar;
        for (int i = 0; i < many; i++) {
            for (String next : behindHeat(row, iron(places, i), terms[0])) {
                if (leads(next, places.substring(i + 1))) {
                    row = next;
                    break;
                }
            }
            plan.add(places.charAt(i) + ":" + row);
        }
        return plan;
    }

    /** The first row of CELLS by which so many HEATS lead from one of these rows to the SHAPE. */
    private String firstPlaces(Set<String> rows, String places, int more) {
        if (more == 0) {
            return rows.contains(shape) ? places : null;
        }
        for (int p = 0; p < cells; p++) {
            Set<String> next = new HashSet<>();
            for (String row : rows) {
                next.addAll(behindHeat(row, p, terms[0]));
            }
            String found = next.isEmpty() ? null : firstPlaces(next, places + p, more - 1);
            if (found != null) {
                return found;
            }
        }
        return null;
    }

    private boolean leads(String row, String places) {
        Set<String> rows = new HashSet<>(Set.of(row));
        for (int i = 0; i < places.length(); i++) {
            Set<String> next = new HashSet<>();
            for (String r : rows) {
                next.addAll(behindHeat(r, iron(places, i), terms[0]));
            }
            rows = next;
        }
        return rows.contains(shape);
    }

    /** SOONEST by all rows there are: when the last is done, then when each begins; null without PIECES. */
    int[] soonest(int fires) {
        return pieces.isEmpty() ? null : soonest(fires, new ArrayList<>());
    }

    private int[] soonest(int fires, List<Integer> row) {
        if (row.size() == pieces.size()) {
            return schedule(fires, row);
        }
        int[] best = null;
        for (int i = 0; i < pieces.size(); i++) {
            int need = pieces.get(i)[1];
            if (!row.contains(i) && (need < 0 || row.contains(need))) {
                List<Integer> longer = new ArrayList<>(row);
                longer.add(i);
                int[] found = soonest(fires, longer);
                if (best == null || found[0] < best[0]) {
                    best = found;
                }
            }
        }
        return best;
    }

    private int[] schedule(int fires, List<Integer> row) {
        int[] free = new int[fires];
        int[] told = new int[pieces.size() + 1];
        for (int i : row) {
            int f = 0;
            for (int g = 0; g < fires; g++) {
                f = free[g] < free[f] ? g : f;
            }
            int need = pieces.get(i)[1];
            told[i + 1] = Math.max(free[f], need < 0 ? 0 : told[need + 1] + pieces.get(need)[0]);
            free[f] = told[i + 1] + pieces.get(i)[0];
            told[0] = Math.max(told[0], free[f]);
        }
        return told;
    }

    /** A RUN, read from its text STEP by STEP. */
    final class Round {
        final int[] iron = new int[cells];
        final int[] punched = new int[cells];
        final int[] holds = new int[cells];
        final boolean[] shoulder = new boolean[cells];
        final boolean[] folded = new boolean[cells];
        final boolean[] cracked = new boolean[cells];
        final boolean[] hot = new boolean[cells];
        int left;
        int latestHeat = -1;
        int heats;
        int struck;
        int moves;
        int duds;
        int cold;
        int scale;
        int dropped = -1;
        int gone;
        /** Below 0: a hand that does not slip. */
        int slip = -1;
        int[] draw = {0};

        Round() {
            for (int c = 0; c < cells; c++) {
                iron[c] = Smith.iron(bar, c);
            }
        }

        Round go(String[] steps) {
            int at = 0;
            while (at < steps.length && gone < 100 && dropped < 0) {
                gone++;
                at = step(steps[at].trim(), at);
            }
            return this;
        }

        private int step(String text, int at) {
            String[] parts = text.split("\\bif\\b", 2);
            if (parts.length == 2 && !new Sums(this, parts[1]).test()) {
                return at + 1;
            }
            Sums rest = new Sums(this, parts[0]);
            String what = rest.word();
            int cell = rest.sum();
            switch (what) {
                case "go":
                    return cell;
                case "fire":
                    fire(cell, at);
                    break;
                case "strike":
                    rest.word();
                    strike(cell, rest.sum());
                    break;
                default:
                    work(what, cell);
            }
            return at + 1;
        }

        boolean there(int cell) {
            return cell >= 0 && cell < cells;
        }

        private void fire(int p, int at) {
            if (!there(p)) {
                duds++;
                return;
            }
            String row = row();
            if (!canHeat(row, p)) {
                dropped = at;
                return;
            }
            for (int c = 0; c < cells; c++) {
                hot[c] = c == p || beside(c, p);
            }
            if (iron[p] > 1) {
                iron[p]--;
                scale++;
            }
            latestHeat = p;
            heats++;
            left = terms[0];
        }

        private void strike(int from, int to) {
            if (!there(from) || !there(to) || !beside(from, to)) {
                duds++;
                return;
            }
            if (left == 0 || !hot[from] && !hot[to]) {
                cold++;
                cracked[from] = true;
                return;
            }
            left--;
            struck++;
            if (iron[from] < 2 || iron[to] == 9 || shoulder[Math.min(from, to)]) {
                duds++;
                return;
            }
            if (slip >= 0) {
                draw[0] = (int) ((draw[0] * 1103L + 12345) % 1000003);
                if (draw[0] % 100 < slip) {
                    duds++;
                    return;
                }
            }
            iron[from]--;
            iron[to]++;
            moves++;
            if (iron[to] > iron[from] * 2) {
                folded[to] = true;
            }
        }

        private void work(String what, int cell) {
            boolean needsNext = !what.equals("punch");
            if (!there(cell) || needsNext && !there(cell + 1)) {
                duds++;
                return;
            }
            boolean can = left > 0 && hot[cell];
            if (what.equals("weld")) {
                can = can && hot[cell + 1] && (latestHeat == cell || latestHeat == cell + 1);
            }
            if (!can) {
                cold++;
                cracked[cell] = true;
                return;
            }
            left--;
            struck++;
            if (what.equals("shoulder")) {
                shoulder[cell] = true;
            } else if (what.equals("weld")) {
                holds[cell] = Math.min(100, 30 + 10 * left + terms[4]);
            } else {
                punched[cell]++;
                if (punched[cell] == 2 && iron[cell] > 1) {
                    iron[cell]--;
                    scale++;
                }
            }
        }

        String row() {
            StringBuilder row = new StringBuilder();
            for (int i : iron) {
                row.append(i);
            }
            return row.toString();
        }

        int bits(String what) {
            int bits = 0;
            for (int c = 0; c < cells; c++) {
                boolean is = what.equals("shoulders") && shoulder[c] || what.equals("holes") && punched[c] > 1
                        || what.equals("welds") && holds[c] > 0 || what.equals("folds") && folded[c]
                        || what.equals("cracks") && cracked[c];
                bits |= is ? 1 << c : 0;
            }
            return bits;
        }

        int[] came() {
            return new int[] {heats, struck, moves, duds, cold, scale, dropped, bits("shoulders"), bits("holes"),
                bits("welds"), bits("folds"), bits("cracks"), heats * terms[1], heats * terms[2] + struck * terms[3]};
        }

        String look() {
            return row() + Arrays.toString(Arrays.copyOfRange(came(), 7, 12));
        }
    }

    /** Reckons a SUM or a TEST of a TEXT that is known to be right, while it reads it. */
    private static final class Sums {
        private final Round round;
        private final String text;
        private int at = 0;

        Sums(Round round, String text) {
            this.round = round;
            this.text = text;
        }

        private void blanks() {
            while (at < text.length() && text.charAt(at) == ' ') {
                at++;
            }
        }

        private boolean next(String sign) {
            blanks();
            if (!text.startsWith(sign, at)) {
                return false;
            }
            at += sign.length();
            return true;
        }

        String word() {
            blanks();
            int from = at;
            while (at < text.length() && Character.isLetter(text.charAt(at))) {
                at++;
            }
            return text.substring(from, at);
        }

        boolean test() {
            boolean so = both();
            while (next("or")) {
                so |= both();
            }
            return so;
        }

        private boolean both() {
            boolean so = plain();
            while (next("and")) {
                so &= plain();
            }
            return so;
        }

        private boolean plain() {
            if (next("not")) {
                return !plain();
            }
            if (next("(")) {
                boolean so = test();
                next(")");
                return so;
            }
            int first = sum();
            if (next("<")) {
                return first < sum();
            }
            if (next(">")) {
                return first > sum();
            }
            next("=");
            return first == sum();
        }

        int sum() {
            int sum = part();
            while (true) {
                if (next("+")) {
                    sum += part();
                } else if (next("-")) {
                    sum -= part();
                } else {
                    return sum;
                }
            }
        }

        private int part() {
            if (next("[")) {
                int sum = sum();
                next("]");
                return sum;
            }
            String word = word();
            switch (word) {
                case "cells":
                    return round.iron.length;
                case "left":
                    return round.left;
                case "heats":
                    return round.heats;
                case "struck":
                    return round.struck;
                case "":
                    int from = at;
                    while (at < text.length() && Character.isDigit(text.charAt(at))) {
                        at++;
                    }
                    return Integer.parseInt(text.substring(from, at));
                default:
                    next("(");
                    int cell = sum();
                    next(")");
                    if (!round.there(cell)) {
                        return 0;
                    }
                    return word.equals("iron") ? round.iron[cell] : round.hot[cell] ? 1 : 0;
            }
        }
    }

    /** FAULT of a TEXT, by a stack of what is still open; -1 without. */
    static int fault(String text) {
        Deque<String> open = new ArrayDeque<>();
        Matcher tokens = Pattern.compile("[a-z]+|[0-9]+|[^ ]", Pattern.DOTALL).matcher(text);
        String expects = "step";
        int[] used = {0, 0};
        while (tokens.find()) {
            expects = behind(expects, tokens.group(), open, used);
            if (expects == null) {
                return tokens.start();
            }
        }
        boolean closed = open.size() == 1 && (open.peek().equals("last") || open.peek().equals("right"));
        boolean canEnd = (expects.equals("sum's end") || expects.equals("no sum")) && closed
                || expects.equals("test's end") && open.isEmpty();
        return canEnd ? -1 : text.length();
    }

    /** What is expected behind a token; null if it can't go on. Used are STEPS and PARTS. */
    private static String behind(String expects, String token, Deque<String> open, int[] used) {
        switch (expects) {
            case "step":
                return used[0]++ == 16 ? null : step(token, open);
            case "number":
                open.push("last");
                return isNumber(token, 15) ? "no sum" : null;
            case "no sum":
                return token.equals("+") || token.equals("-") ? null : behind("sum's end", token, open, used);
            case "plain":
                if (token.equals("not")) {
                    return "plain";
                }
                if (token.equals("(")) {
                    return opened("(", open) ? "plain" : null;
                }
                open.push("left");
                return behind("part", token, open, used);
            case "part":
                return used[1]++ == 60 ? null : part(token, open);
            case "(":
                return token.equals("(") && opened(")", open) ? "part" : null;
            case "sum's end":
                return token.equals("+") || token.equals("-") ? "part" : sumEnds(token, open);
            default:
                return testEnds(token, open);
        }
    }

    private static boolean isNumber(String token, int most) {
        return token.matches("0*[0-9]{1,2}") && Integer.parseInt(token.replaceAll("^0+(?=.)", "")) <= most;
    }

    private static boolean opened(String bracket, Deque<String> open) {
        open.push(bracket);
        int brackets = 0;
        for (String o : open) {
            brackets += o.length() == 1 ? 1 : 0;
        }
        return brackets <= 8;
    }

    private static String step(String token, Deque<String> open) {
        switch (token) {
            case "go":
                return "number";
            case "strike":
                open.push("first");
                return "part";
            case "fire":
            case "shoulder":
            case "punch":
            case "weld":
                open.push("last");
                return "part";
            default:
                return null;
        }
    }

    private static String part(String token, Deque<String> open) {
        if (token.equals("[")) {
            return opened("]", open) ? "part" : null;
        }
        if (token.equals("iron") || token.equals("hot")) {
            return "(";
        }
        return isNumber(token, 99) || List.of("cells", "left", "heats", "struck").contains(token) ? "sum's end" : null;
    }

    private static String sumEnds(String token, Deque<String> open) {
        String what = open.pop();
        switch (what) {
            case "first":
                open.push("last");
                return token.equals("to") ? "part" : null;
            case "last":
                return token.equals("if") ? "plain" : token.equals(";") ? "step" : null;
            case "left":
                open.push("right");
                return List.of("<", ">", "=").contains(token) ? "part" : null;
            case "right":
                return testEnds(token, open);
            default:
                return token.equals(what) ? "sum's end" : null;
        }
    }

    private static String testEnds(String token, Deque<String> open) {
        if (token.equals("and") || token.equals("or")) {
            return "plain";
        }
        if (open.isEmpty()) {
            return token.equals(";") ? "step" : null;
        }
        open.pop();
        return token.equals(")") ? "test's end" : null;
    }

    Round run(int recipe) {
        return new Round().go(recipes.get(recipe).split(";"));
    }

    int change(int recipe, int i) {
        String[] steps = recipes.get(recipe).split(";");
        if (i < 0 || i >= steps.length - 1) {
            return -1;
        }
        String look = new Round().go(steps.clone()).look();
        String step = steps[i];
        steps[i] = steps[i + 1];
        steps[i + 1] = step;
        return new Round().go(steps).look().equals(look) ? 1 : 0;
    }

    int made(String iron, int holes, int folds) {
        int makers = 0;
        for (int k = 0; k < recipes.size(); k++) {
            Round round = run(k);
            if (round.dropped < 0 && round.row().equals(iron) && round.bits("holes") == holes
                    && round.bits("folds") == folds) {
                makers |= 1 << k;
            }
        }
        return makers;
    }

    int twelve(int recipe, int slip, int seed, int what) {
        List<Round> rounds = new ArrayList<>();
        int[] draw = {seed};
        for (int i = 0; i < 12; i++) {
            Round round = new Round();
            round.slip = slip;
            round.draw = draw;
            rounds.add(round.go(recipes.get(recipe).split(";")));
        }
        String like = what == 0 ? rounds.get(0).row() : run(recipe).row();
        int alike = 0;
        int apart = 0;
        for (Round a : rounds) {
            alike += a.row().equals(like) ? 1 : 0;
            for (Round b : rounds) {
                int far = 0;
                for (int c = 0; c < cells; c++) {
                    far += Math.abs(a.iron[c] - b.iron[c]);
                }
                apart = Math.max(apart, far);
            }
        }
        return what == 1 ? apart : alike;
    }
}
