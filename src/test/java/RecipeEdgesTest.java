/** The edges that Terms III (TEXTS) and promises 10 to 12 name: recipe, fault, steps. */
public final class RecipeEdgesTest {
    private static final Due DUE = new Due("RecipeEdgesTest");
    private static final Edge EDGE = new Edge(DUE);

    public static void main(String[] args) {
        recipeNumbers();
        recipeWithoutRoom();
        recipeOfBlanks();
        recipeFaulty();
        faultOfTheLatest();
        steps();
        everyByteBehindAWord();
        everyByteBehindANumber();
        everyByteAtFirst();
        wordsOfOtherLengths();
        blanks();
        kindsOfSteps();
        numbers();
        numbersOfGo();
        sixteenSteps();
        sixtyParts();
        partsInOthers();
        partsOfTests();
        eightBrackets();
        ninthBracket();
        bracketsBesideOneAnother();
        faultAtTheEnd();
        faultInTests();
        faultInSums();
        fourHundredTokens();
        eachTextAnew();
        DUE.close();
    }

    /** FAULT of a TEXT, and that recipe() is refused just where there is one. */
    private static void fault(String text, int place) {
        HotIron x = new HotIron();
        String told = "\"" + text + "\"";
        Due.write(x, text);
        DUE.is("recipe() of " + told, x.recipe(), place < 0 ? 0 : -6);
        DUE.is("fault() of " + told, x.fault(), place);
        DUE.is("count(1) behind " + told, x.count(1), place < 0 ? 1 : 0);
        DUE.is("count(4) behind " + told, x.count(4), 0);
        DUE.is("count(9) behind " + told, x.count(9), place < 0 ? 0 : 1);
        DUE.is("status() behind " + told, x.status(), place < 0 ? 0 : -6);
    }

    private static void right(String text) {
        fault(text, -1);
    }

    private static HotIron with(HotIron x, String text) {
        x.end(0);
        Due.write(x, text);
        return x;
    }

    /** "8 at most"; "its number". */
    private static void recipeNumbers() {
        HotIron x = new HotIron();
        for (int k = 0; k < 8; k++) {
            DUE.is("recipe " + k, Due.recipe(x, "fire 0"), k);
            DUE.is("status()", x.status(), 0);
            DUE.is("count(1)", x.count(1), k + 1);
            DUE.is("count(4)", x.count(4), 0);
        }
        DUE.is("recipe 8", Due.recipe(x, "fire 0"), -5);
        DUE.is("count(1)", x.count(1), 8);
        HotIron y = new HotIron();
        Due.recipe(y, "fire 0");
        Due.recipe(y, "fire");
        DUE.is("one that can't be takes no number", Due.recipe(y, "fire 0"), 1);
        EDGE.granted(with(Look.busy(), "go 0"), "recipe()", z -> z.recipe(), 2, "recipes tape fault");
        DUE.is("the FAULT of ahead goes with a TEXT that has none", Due.fault(Look.busy(), "go 0"), -1);
    }

    /** "-5 (ahead of reading it)": no FAULT comes of it, whatever the TAPE has; it is empty then. */
    private static void recipeWithoutRoom() {
        String[] texts = {"fire 0", "fire", "?", " ", "go 16"};
        for (String text : texts) {
            EDGE.refused(with(Look.full(), text), "recipe() of \"" + text + "\"", x -> x.recipe(), -5, "tape");
        }
        EDGE.refused(Look.full(), "recipe() of 400 blanks", x -> x.recipe(), -5, "tape");
        EDGE.refused(with(Look.full(), ""), "recipe() of an empty TAPE", x -> x.recipe(), -5);
        DUE.is("the FAULT ahead of it", Look.full().fault(), 5);
    }

    /** "-6 (blanks alone: FAULT at the end)". */
    private static void recipeOfBlanks() {
        int[] lengths = {0, 1, 2, 19, 20, 399, 400};
        for (int length : lengths) {
            fault(" ".repeat(length), length);
            String changes = length == 0 ? "fault" : "tape fault";
            HotIron x = with(Look.busy(), " ".repeat(length));
            EDGE.refused(x, "recipe() of " + length + " blanks", y -> y.recipe(), -6, changes);
        }
    }

    private static void recipeFaulty() {
        EDGE.refused(with(Look.busy(), "fire 1 ?"), "recipe() with a FAULT", x -> x.recipe(), -6, "tape fault");
        EDGE.refused(with(Look.busy(), "fire !"), "recipe() with the FAULT as ahead", x -> x.recipe(), -6, "tape");
    }

    /** "FAULT of the latest recipe() that read a TEXT: its place; NONE without". */
    private static void faultOfTheLatest() {
        EDGE.asked(Look.busy(), "fault()", x -> x.fault(), 5);
        EDGE.asked(new HotIron(), "fault() of none", x -> x.fault(), -1);
        HotIron x = new HotIron();
        DUE.is("a first", Due.fault(x, "fire ?"), 5);
        x.row();
        x.run(0);
        x.wide(9);
        x.feed(1, 2, 3, 4, 5);
        x.end(0);
        DUE.is("others leave it", x.fault(), 5);
        DUE.is("an empty TEXT was read, too", x.recipe(), -6);
        DUE.is("its FAULT", x.fault(), 0);
        DUE.is("one without", Due.fault(x, "fire 1"), -1);
        DUE.is("another one with", Due.fault(x, "?"), 0);
    }

    /** "How many STEPS a RECIPE has; NONE". */
    private static void steps() {
        int[] none = {Integer.MIN_VALUE, -1, 2, 3, 7, 8, Integer.MAX_VALUE};
        for (int recipe : none) {
            EDGE.asked(Look.busy(), "steps(" + recipe + ")", x -> x.steps(recipe), -1);
        }
        EDGE.asked(Look.busy(), "steps(0)", x -> x.steps(0), 3);
        EDGE.asked(Look.busy(), "steps(1)", x -> x.steps(1), 4);
        EDGE.asked(Look.full(), "steps(7)", x -> x.steps(7), 1);
        EDGE.asked(Look.full(), "steps(8)", x -> x.steps(8), -1);
        HotIron x = new HotIron();
        DUE.is("steps(0) without", x.steps(0), -1);
        Due.recipe(x, "go 0" + ";go 0".repeat(15));
        DUE.is("sixteen", x.steps(0), 16);
    }

    private static boolean isLetter(int sign) {
        return sign >= 97 && sign <= 122;
    }

    private static boolean isDigit(int sign) {
        return sign >= 48 && sign <= 57;
    }

    /** "TOKENS: longest rows of letters a .. z, of digits, single other bytes, any blanks (32) between". */
    private static void everyByteBehindAWord() {
        for (int sign = 0; sign < 256; sign++) {
            int due = sign == 32 || isDigit(sign) ? -1 : isLetter(sign) ? 0 : sign == '[' ? 6 : 4;
            fault("fire" + (char) sign + "1", due);
        }
    }

    private static void everyByteBehindANumber() {
        for (int sign = 0; sign < 256; sign++) {
            boolean goesOn = sign == ';' || sign == '+' || sign == '-';
            fault("fire 1" + (char) sign, sign == 32 || isDigit(sign) ? -1 : goesOn ? 7 : 6);
        }
    }

    private static void everyByteAtFirst() {
        for (int sign = 0; sign < 256; sign++) {
            fault((char) sign + "fire 1", sign == 32 ? -1 : 0);
        }
    }

    /** A row of letters is one TOKEN: no word is seen in a longer or a shorter one. */
    private static void wordsOfOtherLengths() {
        String[][] texts = {
            {"", "fire", " 1"}, {"", "strike", " 1 to 2"}, {"", "shoulder", " 1"}, {"", "punch", " 1"}, {"", "weld", " 1"},
            {"", "go", " 1"}, {"strike 1 ", "to", " 2"}, {"fire 1 ", "if", " 1=1"}, {"fire 1 if 1=1 ", "or", " 1=1"},
            {"fire 1 if 1=1 ", "and", " 1=1"}, {"fire 1 if ", "not", " 1=1"}, {"fire ", "iron", "(1)"}, {"fire ", "hot", "(1)"},
            {"fire ", "cells", ""}, {"fire ", "left", ""}, {"fire ", "heats", ""}, {"fire ", "struck", ""},
        };
        for (String[] text : texts) {
            String word = text[1];
            right(text[0] + word + text[2]);
            fault(text[0] + word + "s" + text[2], text[0].length());
            fault(text[0] + "a" + word + text[2], text[0].length());
            fault(text[0] + word.substring(1) + text[2], text[0].length());
            fault(text[0] + word.substring(0, word.length() - 1) + text[2], text[0].length());
            fault(text[0] + word.toUpperCase() + text[2], text[0].length());
            fault(text[0] + word + word + text[2], text[0].length());
        }
    }

    /** Blanks stand between TOKENS alone, where they need not be. */
    private static void blanks() {
        right("fire1if1=1and2>1;go0");
        right("   fire   [   iron   (   1   )   -   1   ]   if   not   (   1   =   1   )   ;   go   0   ");
        right("strike1to2;strike[1]to[2]if(left>0)or(not(1=1))");
        fault("fi re 1", 0);
        fault("fire 1 1", 7);
        fault("fire ir on(1)", 5);
        fault("go 1 5", 5);
        right("go 1 ; go 5");
    }

    /** Each STEP with and without "if", and none with what belongs to another. */
    private static void kindsOfSteps() {
        String[] cells = {"fire", "shoulder", "punch", "weld"};
        for (String word : cells) {
            right(word + " 1");
            right(word + " 1 if 1=1");
            right(word + " iron(0)+1-[2]");
            fault(word, word.length());
            fault(word + " to 1", word.length() + 1);
            fault(word + " 1 to 2", word.length() + 3);
            fault(word + " if 1=1", word.length() + 1);
            fault(word + " 1 if 1=1 1", word.length() + 10);
        }
        right("strike 1+1 to 2-1 if 1=1");
        fault("strike 1 if 1=1", 9);
        fault("strike 1 to if 1=1", 12);
        fault("strike to 1", 7);
        fault("strike 1,2", 8);
        right("go 1 if 1=1");
        fault("go if 1=1", 3);
        fault("go [1]", 3);
        fault("go iron(1)", 3);
        fault("go 1-0", 4);
        fault("go 1 to 2", 5);
        fault("if 1=1", 0);
        fault("1", 0);
        fault("cells", 0);
    }

    /** "NUMBER (to 99)". */
    private static void numbers() {
        right("fire 0");
        right("fire 9");
        right("fire 98");
        right("fire 99");
        fault("fire 100", 5);
        fault("fire 101", 5);
        fault("fire 999", 5);
        fault("fire 1000", 5);
        fault("fire 2147483648", 5);
        fault("fire 4294967296", 5);
        fault("fire 18446744073709551617", 5);
        fault("fire " + "9".repeat(395), 5);
        right("fire 99+99+99");
        fault("fire 99+100", 8);
        fault("fire iron(100)", 10);
        fault("fire 1 if 100=1", 10);
        fault("fire 1 if 1=100", 12);
        fault("strike 100 to 1", 7);
        fault("strike 1 to 100", 12);
        fault("fire 1;punch 100", 13);
    }

    /** "Of "go" 0 .. 15". */
    private static void numbersOfGo() {
        right("go 0");
        right("go 1");
        right("go 14");
        right("go 15");
        fault("go 16", 3);
        fault("go 17", 3);
        fault("go 99", 3);
        fault("go 100", 3);
        fault("go -1", 3);
        fault("fire 16;go 16", 11);
    }

    /** "16 at most (FAULT at the 17th's first TOKEN)". */
    private static void sixteenSteps() {
        String fifteen = "go 0;".repeat(14) + "go 0";
        String sixteen = fifteen + ";go 0";
        right(fifteen);
        right(sixteen);
        right(sixteen + "  ");
        right(sixteen + " if 1=1");
        int behind = sixteen.length() + 1;
        fault(sixteen + ";go 0", behind);
        fault(sixteen + ";fire 1", behind);
        fault(sixteen + ";   go 0", behind + 3);
        fault(sixteen + ";go 0;go 0", behind);
        fault(sixteen + ";go 99", behind);
        fault(sixteen + ";?", behind);
        fault(sixteen + ";1", behind);
        fault(sixteen + ";", behind);
        fault(sixteen + ";  ", behind + 2);
        fault(sixteen + " go 0", behind);
        fault(fifteen + ";", fifteen.length() + 1);
        fault("go 16;" + fifteen + ";go 0", 3);
    }

    /** "60 PARTS (FAULT at the 61st)". */
    private static void sixtyParts() {
        String fiftyNine = "fire 1" + "+1".repeat(58);
        String sixty = fiftyNine + "-1";
        right(fiftyNine);
        right(sixty);
        right(sixty + ";go 1;go 2");
        int length = sixty.length();
        fault(sixty + "+1", length + 1);
        fault(sixty + "+  99", length + 3);
        fault(sixty + "+[1]", length + 1);
        fault(sixty + "+iron(1)", length + 1);
        fault(sixty + "+cells", length + 1);
        fault(sixty + "+?", length + 1);
        fault(sixty + "+", length + 1);
        fault(sixty + "+1+1", length + 1);
        fault(sixty + ";punch 1", length + 7);
        fault(sixty + ";strike 1 to 1", length + 8);
        fault(sixty + " if 1=1", length + 4);
        fault(sixty + " if (1=1)", length + 5);
        fault(sixty + " if not 1=1", length + 8);
        fault(fiftyNine + ";strike 1 to 1", fiftyNine.length() + 13);
        right(fiftyNine + ";fire 1");
        fault(fiftyNine + " if 1=1", fiftyNine.length() + 6);
        right(fiftyNine.substring(0, fiftyNine.length() - 2) + " if 1=1");
        // What can't go on ahead of the 61st is the FAULT.
        fault("fire 1 1" + "+1".repeat(70), 7);
    }

    /** "those in others too": a PART with a PART in it is two. */
    private static void partsInOthers() {
        String sixty = "fire " + "[1]+".repeat(29) + "[1]";
        right(sixty);
        fault(sixty + "+1", sixty.length() + 1);
        String fiftyNine = "fire " + "iron(1)+".repeat(29) + "1";
        right(fiftyNine);
        right(fiftyNine + "+heats");
        fault(fiftyNine + "+hot(1)", fiftyNine.length() + 5);
        fault(fiftyNine + "+[1]", fiftyNine.length() + 2);
        fault(fiftyNine + "+[[1]]", fiftyNine.length() + 2);
        String deep = "fire " + "[[[[[[[[1]]]]]]]]+".repeat(6) + "[[[[[1]]]]]";
        right(deep);
        fault(deep + "-left", deep.length() + 1);
    }

    /** PARTS of a TEST count, on both its sides; its brackets are no PARTS. */
    private static void partsOfTests() {
        String sixty = "fire 1-1 if " + "1=1 or ".repeat(28) + "(((1=1)))";
        right(sixty);
        fault(sixty + " or 1=1", sixty.length() + 4);
        fault(sixty + " and not (1=1)", sixty.length() + 10);
        String fiftyNine = "fire 1 if " + "1=1 or ".repeat(28) + "1=1";
        right(fiftyNine);
        fault(fiftyNine + " or 1=1", fiftyNine.length() + 6);
        right(fiftyNine + ";weld 1");
        fault(fiftyNine + ";weld 1;weld 1", fiftyNine.length() + 13);
    }

    /** "8 brackets of both kinds within one another". */
    private static void eightBrackets() {
        right("fire [[[[[[[[1]]]]]]]]");
        right("fire iron(iron(iron(iron(iron(iron(iron(iron(1))))))))");
        right("fire iron([hot([iron([hot([1])])])])");
        right("fire 1 if ((((((((1=1))))))))");
        right("fire 1 if ((((([[[1]]]=1)))))");
        right("fire 1 if (((((((hot(1)=iron(1))))))))");
        right("fire 1 if " + "not(".repeat(8) + "1=1" + ")".repeat(8));
    }

    /** "(FAULT at the 9th)". */
    private static void ninthBracket() {
        fault("fire [[[[[[[[[1]]]]]]]]]", 13);
        fault("fire [[[[[[[[ [1]]]]]]]]]", 14);
        fault("fire [[[[[[[[[[[[", 13);
        fault("fire iron(iron(iron(iron(iron(iron(iron(iron(iron(1)))))))))", 49);
        fault("fire iron([hot([iron([hot([[1]])])])])", 27);
        fault("fire iron([hot([iron([hot([iron(1)])])])])", 31);
        fault("fire 1 if (((((((((1=1)))))))))", 18);
        fault("fire 1 if ((((((((1=[1]))))))))", 20);
        fault("fire 1 if ((((((((hot(1)=1))))))))", 21);
        fault("fire 1 if ((((([[[[1]]]]=1)))))", 18);
        fault("fire 1 if " + "not(".repeat(9) + "1=1" + ")".repeat(9), 45);
    }

    /** Brackets that are closed are not among those within one another. */
    private static void bracketsBesideOneAnother() {
        right("fire [[[[[[[[1]]]]]]]]+[[[[[[[[1]]]]]]]]");
        right("fire [[[[[[[[1]]]]]]]];fire [[[[[[[[1]]]]]]]]");
        right("strike [[[[[[[[1]]]]]]]] to [[[[[[[[1]]]]]]]]");
        right("fire 1 if ((((((((1=1)))))))) or ((((((((1=1))))))))");
        right("fire 1 if (((((((([1=1]))))))))".replace("[1=1]", "1=1 or 1=1"));
        right("fire 1 if (((((((1=1)))))))and[[[[[[[[1]]]]]]]]=iron([[[[[[[1]]]]]]])");
        fault("fire [[[[[[[[1]]]]]]]]+[[[[[[[[[1]]]]]]]]]", 31);
    }

    /** "(the end's: the TEXT's length)": blanks behind the last TOKEN count. */
    private static void faultAtTheEnd() {
        String[] texts = {"fire", "fire 1+", "fire 1;", "strike 1", "strike 1 to", "go", "fire [", "fire [1", "fire iron", "fire iron(",
            "fire iron(1", "fire 1 if", "fire 1 if 1", "fire 1 if 1=", "fire 1 if not", "fire 1 if (", "fire 1 if (1=1",
            "fire 1 if 1=1 and", "fire 1 if 1=1 or", "fire 1 if 1=1;"};
        for (String text : texts) {
            fault(text, text.length());
            fault(text + "   ", text.length() + 3);
        }
        fault(" ".repeat(396) + "fire", 400);
        fault("fire" + " ".repeat(396), 400);
        right(" ".repeat(394) + "fire 1");
        right("fire" + " ".repeat(395) + "1");
        fault(" ".repeat(393) + "fire 1?", 399);
    }

    private static void faultInTests() {
        fault("fire 1 if 1+1", 13);
        fault("fire 1 if 1;fire 1", 11);
        fault("fire 1 if (1+1)=2", 14);
        fault("fire 1 if [1=1]", 12);
        fault("fire 1 if (1=1]", 14);
        fault("fire 1 if ()", 11);
        fault("fire 1 if 1=1)", 13);
        fault("fire 1 if (1=1)=1", 15);
        fault("fire 1 if (1=1)+1", 15);
        fault("fire 1 if (1=1) not", 16);
        fault("fire 1 if 1 not = 1", 12);
        fault("fire 1 if 1=not 1", 12);
        fault("fire 1 if 1=1 and or", 18);
        fault("fire 1 if or", 10);
        fault("fire 1 if 1>=1", 12);
        fault("fire 1 if 1=<1", 12);
        fault("fire 1 if 1<1<1", 13);
        fault("fire 1 if 1=1 if 1=1", 14);
        fault("fire 1 if 1=1 to 1", 14);
        right("fire 1 if not not not(not 1=1 and(1<1 or not 1>1))");
    }

    private static void faultInSums() {
        fault("fire -1", 5);
        fault("fire 1--1", 7);
        fault("fire 1+-1", 7);
        fault("fire 1*1", 6);
        fault("fire (1)", 5);
        fault("fire []", 6);
        fault("fire [1)", 7);
        fault("fire iron()", 10);
        fault("fire iron[1]", 9);
        fault("fire iron(1]", 11);
        fault("fire iron 1", 10);
        fault("fire iron", 9);
        fault("fire 1iron(1)", 6);
        fault("fire cells()", 10);
        fault("fire left 1", 10);
        fault("fire to", 5);
        fault("fire if", 5);
        fault("fire fire", 5);
        fault("fire not 1", 5);
        right("fire [1+[2-3]]-iron(1+[heats])+hot(iron(struck-left))");
    }

    /** A TEXT may be as many TOKENS as bytes. */
    private static void fourHundredTokens() {
        fault("?".repeat(400), 0);
        fault(";".repeat(400), 0);
        fault("(".repeat(400), 0);
        fault("fire" + "[".repeat(396), 12);
        fault("fire 1" + ";".repeat(394), 7);
        fault("fire 1" + "+".repeat(394), 7);
        fault("fire 1 if" + "(".repeat(391), 17);
        fault("fire 1" + "+1".repeat(197), 6 + 2 * 59 + 1);
        fault("fire" + "0".repeat(395) + "?", 399);
        right("fire 1 if " + "not ".repeat(96) + "1=1");
        right("fire 1 if " + "not(".repeat(8) + "not ".repeat(85) + "1=1" + ")".repeat(8));
    }

    /** What was counted in a TEXT with a FAULT does not count in the next one. */
    private static void eachTextAnew() {
        String sixty = "fire 1" + "+1".repeat(59);
        String sixteen = "go 0" + ";go 0".repeat(15);
        String eight = "fire [[[[[[[[1]]]]]]]]";
        HotIron x = new HotIron();
        DUE.is("eight brackets open", Due.fault(x, "fire [[[[[[[[1"), 14);
        DUE.is("eight again", Due.recipe(x, eight), 0);
        DUE.is("sixty-one PARTS", Due.fault(x, sixty + "+1"), sixty.length() + 1);
        DUE.is("sixty", Due.recipe(x, sixty), 1);
        DUE.is("seventeen STEPS", Due.fault(x, sixteen + ";go 0"), sixteen.length() + 1);
        DUE.is("sixteen", Due.recipe(x, sixteen), 2);
        DUE.is("steps(2)", x.steps(2), 16);
        DUE.is("one", Due.recipe(x, "fire 0"), 3);
        DUE.is("steps(3)", x.steps(3), 1);
        DUE.is("sixty again", Due.recipe(x, sixty), 4);
        DUE.is("eight again", Due.recipe(x, eight), 5);
        DUE.is("run(3)", x.run(3), 1);
        DUE.is("HEATS", x.came(0), 1);
        DUE.is("run(2)", x.run(2), 100);
    }
}
