import java.util.Random;

/** Draws TEXTS of RECIPES that are right, but for limits. */
final class Texts {
    static String text(Random random, int cells) {
        StringBuilder text = new StringBuilder("fire " + random.nextInt(cells));
        int steps = random.nextInt(14);
        for (int i = 0; i < steps && text.length() < 200; i++) {
            text.append(random.nextInt(4) == 0 ? " ; " : ";").append(step(random, cells));
            if (random.nextInt(4) == 0) {
                text.append(" if ").append(test(random, 2));
            }
        }
        return text.toString();
    }

    private static String step(Random random, int cells) {
        int cell = random.nextInt(cells);
        switch (random.nextInt(12)) {
            case 0:
            case 1:
                return "fire " + (random.nextInt(8) == 0 ? sum(random, 1) : "" + cell);
            case 2:
                return "shoulder " + cell;
            case 3:
            case 4:
                return "punch " + cell;
            case 5:
            case 6:
                return "weld " + cell;
            case 7:
                return "go " + random.nextInt(16);
            case 8:
                return "strike " + sum(random, 1) + " to " + sum(random, 1);
            default:
                int other = random.nextBoolean() ? cell + 1 : Math.max(0, cell - 1);
                return "strike " + cell + " to " + other;
        }
    }

    private static String test(Random random, int depth) {
        int kind = random.nextInt(depth > 0 ? 6 : 3);
        switch (kind) {
            case 3:
                return "not " + (random.nextBoolean() ? "not (" : "(") + test(random, depth - 1) + ")";
            case 4:
                return test(random, depth - 1) + " and " + test(random, depth - 1);
            case 5:
                return test(random, depth - 1) + " or " + test(random, depth - 1);
            default:
                return sum(random, 1) + "<=>".charAt(kind) + sum(random, 1);
        }
    }

    private static String sum(Random random, int depth) {
        String[] plain = {"cells", "left", "heats", "struck", "0", "1", "2", "3"};
        String part = plain[random.nextInt(plain.length)];
        if (depth > 0) {
            int kind = random.nextInt(6);
            part = kind == 0 ? "iron(" + sum(random, depth - 1) + ")" : kind == 1 ? "hot(" + sum(random, depth - 1) + ")"
                    : kind == 2 ? "[" + sum(random, depth - 1) + "-" + sum(random, depth - 1) + "]" : part;
        }
        return random.nextInt(4) > 0 ? part : part + (random.nextBoolean() ? "+" : "-") + random.nextInt(3);
    }
}
