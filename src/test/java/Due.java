/** Counts the answers of one test that are not as due. */
final class Due {
    private final String test;
    private int wrong = 0;
    private int asked = 0;

    Due(String test) {
        this.test = test;
    }

    void is(String call, long got, long want) {
        asked++;
        if (got != want) {
            wrong++;
            System.out.println(test + ": " + call + " answered " + got + ", due is " + want);
        }
    }

    void is(String call, String got, String want) {
        asked++;
        if (!got.equals(want)) {
            wrong++;
            System.out.println(test + ": " + call + " \"" + got + "\", due is \"" + want + "\"");
        }
    }

    void close() {
        System.out.println(test + ": " + asked + " answers, " + wrong + " not as due");
        if (wrong != 0 || asked == 0) {
            System.exit(1);
        }
    }

    /** Puts a text behind the TAPE. */
    static int write(HotIron x, String text) {
        int from = x.count(4);
        for (int i = 0; i < text.length(); i += 20) {
            int[] five = new int[5];
            for (int k = 0; k < 20; k++) {
                int sign = i + k < text.length() ? text.charAt(i + k) : ' ';
                five[k / 4] = five[k / 4] << 8 | sign & 255;
            }
            if (x.feed(five[0], five[1], five[2], five[3], five[4]) == HotIron.NONE) {
                return HotIron.NONE;
            }
        }
        return x.end(from + text.length());
    }

    /** A RECIPE of a text: its number. */
    static int recipe(HotIron x, String text) {
        write(x, text);
        return x.recipe();
    }

    /** FAULT of a text. */
    static int fault(HotIron x, String text) {
        write(x, text);
        x.recipe();
        return x.fault();
    }

    static void bar(HotIron x, int... iron) {
        x.wide(iron.length);
        for (int cell = 0; cell < iron.length; cell++) {
            x.bar(cell, iron[cell]);
        }
    }

    static void shape(HotIron x, int... iron) {
        for (int cell = 0; cell < iron.length; cell++) {
            x.shape(cell, iron[cell]);
        }
    }

    /** IRON behind the latest run(), digit by digit. */
    static int irons(HotIron x, int cells) {
        int number = 0;
        for (int cell = 0; cell < cells; cell++) {
            number = number * 10 + x.iron(cell);
        }
        return number;
    }

    /** IRON behind a HEAT of the PLAN, digit by digit. */
    static int planned(HotIron x, int i, int cells) {
        int number = 0;
        for (int cell = 0; cell < cells; cell++) {
            number = number * 10 + x.plan(i, cell);
        }
        return number;
    }
}
