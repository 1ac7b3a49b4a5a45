/** Promises 7 to 12: feed, end, row, recipe, fault, steps. */
public final class TapeTest {
    private static final Due DUE = new Due("TapeTest");

    public static void main(String[] args) {
        tape();
        row();
        recipes();
        faults();
        limits();
        DUE.close();
    }

    private static void tape() {
        HotIron x = new HotIron();
        DUE.is("end(0) of an empty tape", x.end(0), 0);
        DUE.is("end(1) of an empty tape", x.end(1), -1);
        for (int i = 1; i <= 20; i++) {
            DUE.is("feed " + i, x.feed(i, i, i, i, i), 20 * i);
        }
        DUE.is("feed 21", x.feed(0, 0, 0, 0, 0), -1);
        DUE.is("count(4)", x.count(4), 400);
        DUE.is("end(401)", x.end(401), -1);
        DUE.is("end(-1)", x.end(-1), -1);
        DUE.is("end(381)", x.end(381), 381);
        DUE.is("feed to 401", x.feed(0, 0, 0, 0, 0), -1);
        DUE.is("count(4) stays", x.count(4), 381);
        DUE.is("end(380)", x.end(380), 380);
        DUE.is("feed to 400", x.feed(0, 0, 0, 0, 0), 400);
        DUE.is("end(0)", x.end(0), 0);
        DUE.is("none of these is refused", x.count(5), 0);
    }

    private static void row() {
        HotIron x = new HotIron();
        DUE.is("row() of an empty tape", x.row(), -6);
        x.feed(9, 1, 10, 0, 7);
        DUE.is("row() of five ints, four cells", x.row(), -6);
        DUE.is("the tape is empty then", x.count(4), 0);
        DUE.is("the bar stays", x.count(3), 12);
        x.feed(9, 1, 10, 0, 7);
        x.end(16);
        DUE.is("row() of four", x.row(), 4);
        DUE.is("the tape is empty then", x.count(4), 0);
        DUE.is("cell 0", x.bar(0, 9), 9);
        DUE.is("cell 1", x.bar(1, 1), 1);
        DUE.is("10 is burnt", x.bar(2, 1), 1);
        DUE.is("0 is burnt", x.bar(3, 4), 1);
        x.feed(-5, 0x01000005, 8, 8, 8);
        x.end(11);
        DUE.is("row() that breaks off", x.row(), 2);
        DUE.is("-5 is burnt", x.bar(0, 1), 1);
        DUE.is("the highest byte counts", x.bar(1, 1), 1);
        DUE.is("what breaks off stays", x.bar(2, 1), 1);
        DUE.is("what is behind it stays", x.bar(3, 4), 4);
        x.feed(5, 5, 5, 5, 5);
        x.end(3);
        DUE.is("row() that breaks off at once", x.row(), 0);
        DUE.is("the tape is empty then", x.count(4), 0);
        DUE.is("cell 0 stays", x.bar(0, 1), 1);
        x.feed(5, 5, 5, 5, 5);
        x.end(17);
        DUE.is("a fifth int breaks off", x.row(), -6);
        x.wide(5);
        x.feed(5, 6, 7, 8, 9);
        x.end(17);
        DUE.is("row() of five cells", x.row(), 4);
        DUE.is("iron together", x.count(3), 29);
        DUE.is("refused by -6", x.count(9), 3);
    }

    private static void recipes() {
        HotIron x = new HotIron();
        DUE.is("steps(0) without", x.steps(0), -1);
        DUE.is("recipe() of an empty tape", x.recipe(), -6);
        DUE.is("fault at the end", x.fault(), 0);
        DUE.is("blanks alone", Due.fault(x, "     "), 5);
        DUE.is("the tape is empty then", x.count(4), 0);
        for (int k = 0; k < 8; k++) {
            DUE.is("recipe " + k, Due.recipe(x, "fire " + k + ";go 0".repeat(k)), k);
            DUE.is("steps", x.steps(k), k + 1);
            DUE.is("no fault", x.fault(), -1);
        }
        DUE.is("steps(8)", x.steps(8), -1);
        DUE.is("steps(-1)", x.steps(-1), -1);
        DUE.is("count(1)", x.count(1), 8);
        DUE.is("no room for a ninth", Due.recipe(x, "fire"), -5);
        DUE.is("it was not read", x.fault(), -1);
        DUE.is("the tape is empty then, too", x.count(4), 0);
        DUE.is("feed begins anew", x.feed(0, 0, 0, 0, 0), 20);
        DUE.is("no room, whatever the text", x.recipe(), -5);
        DUE.is("end of an empty tape", x.end(1), -1);
        DUE.is("no room, an empty tape", x.recipe(), -5);
        DUE.is("its status", x.status(), -5);
        DUE.is("refused by -5", x.count(8), 3);
        DUE.is("refused by -6", x.count(9), 2);
        DUE.is("count(1) stays", x.count(1), 8);
        faultBehindNoRoom();
    }

    /** What is not read leaves FAULT as it was. */
    private static void faultBehindNoRoom() {
        HotIron x = new HotIron();
        for (int k = 0; k < 7; k++) {
            Due.recipe(x, "fire 0");
        }
        x.image(0);
        Due.recipe(x, "fire 0");
        x.image(1);
        x.back(0);
        DUE.is("a fault with room", Due.fault(x, "fire ?"), 5);
        x.back(1);
        DUE.is("no room", Due.recipe(x, "fire 0"), -5);
        DUE.is("the fault stays", x.fault(), 5);
        DUE.is("no room for a row's ints either", Due.recipe(x, "????????"), -5);
        DUE.is("none of them is left for a row", x.row(), -6);
    }

    private static void faults() {
        String[] right = {
            "fire0", "  fire   1  ", "strike1to0", "strike iron(0)-1 to [cells-left]",
            "shoulder heats+struck-hot(1)", "punch 99", "weld 007", "go 15 if not not 1=1",
            "go 0 if 1<2 or 2>1 and not(3=3 or not(4<5)and 1=1)", "fire 0 if ((((((((1=1)))))))) ",
            "fire iron(hot([iron([[[[1]]]])]))", "fire 1-2-3+4",
        };
        for (String text : right) {
            DUE.is("fault of \"" + text + "\"", Due.fault(new HotIron(), text), -1);
        }
        // Each text with the place of its FAULT.
        fault("fire 1;", 7);
        fault("fire 1;  ", 9);
        fault(";fire 1", 0);
        fault("fire 1;;fire 1", 7);
        fault("fire", 4);
        fault("fire 1 2", 7);
        fault("fire 1 fire 2", 7);
        fault("fires 1", 0);
        fault("FIRE 1", 0);
        fault("firez 1", 0);
        fault("fire`1", 4);
        fault("fire{1", 4);
        fault("fire /", 5);
        fault("fire :", 5);
        fault("fire 1 if 1=09 zz", 15);
        fault("fire +1", 5);
        fault("fire 1+", 7);
        fault("fire 1*2", 6);
        fault("fire (1)", 5);
        fault("fire [1)", 7);
        fault("fire [1", 7);
        fault("fire 1]", 6);
        fault("fire iron[1]", 9);
        fault("fire iron(1]", 11);
        fault("fire hot 1", 9);
        fault("fire cells(1)", 10);
        fault("fire 100", 5);
        fault("fire 99999999999999999999", 5);
        fault("fire 4294967297", 5);
        fault("fire 1 if", 9);
        fault("fire 1 if 1", 11);
        fault("fire 1 if 1=", 12);
        fault("fire 1 if 1==1", 12);
        fault("fire 1 if 1<>1", 12);
        fault("fire 1 if 1=1=1", 13);
        fault("fire 1 if (1)=1", 12);
        fault("fire 1 if (1=1", 14);
        fault("fire 1 if (1=1))", 15);
        fault("fire 1 if not", 13);
        fault("fire 1 if and 1=1", 10);
        fault("fire 1 if 1=1 and", 17);
        fault("fire 1 if 1=1 or or", 17);
        fault("fire 1 if 1=1 if 1=1", 14);
        fault("fire 1 if notnot 1=1", 10);
        fault("strike 1", 8);
        fault("strike 1 2", 9);
        fault("strike 1 to", 11);
        fault("strike 1 to 2 to 3", 14);
        fault("go", 2);
        fault("go 16", 3);
        fault("go 1+1", 4);
        fault("go cells", 3);
        fault("go -1", 3);
        fault("fire\t1", 4);
        fault("fire 1" + (char) 228, 6);
        fault("fire 1\u0000", 6);
        fault("to 1", 0);
        fault("if 1=1", 0);
    }

    private static void fault(String text, int place) {
        HotIron x = new HotIron();
        Due.write(x, text);
        DUE.is("recipe of \"" + text + "\"", x.recipe(), -6);
        DUE.is("fault of \"" + text + "\"", x.fault(), place);
        DUE.is("the tape is empty then", x.count(4), 0);
        DUE.is("no recipe", x.count(1), 0);
    }

    private static void limits() {
        HotIron x = new HotIron();
        String sixteen = "go 0;".repeat(15) + "go 0";
        DUE.is("sixteen steps", Due.recipe(x, sixteen), 0);
        DUE.is("sixteen steps", x.steps(0), 16);
        DUE.is("seventeen", Due.fault(x, sixteen + "; go 0"), sixteen.length() + 2);
        DUE.is("a seventeenth that is none", Due.fault(x, sixteen + "; ?"), sixteen.length() + 2);
        DUE.is("a seventeenth that is not there", Due.fault(x, sixteen + "; "), sixteen.length() + 2);
        String sixty = "fire 0" + "+1".repeat(59);
        DUE.is("sixty parts", Due.fault(x, sixty), -1);
        DUE.is("sixty-one", Due.fault(x, sixty + "+ 1"), sixty.length() + 2);
        DUE.is("sixty-one in two steps", Due.fault(x, sixty + ";punch iron(0)"), sixty.length() + 7);
        DUE.is("a number of go is no part", Due.fault(x, sixty + ";go 1"), -1);
        String inOthers = "fire " + "iron(1)+".repeat(29) + "[1]";
        DUE.is("those in others count", Due.fault(x, inOthers), -1);
        DUE.is("those in others count", Due.fault(x, inOthers + "+1"), inOthers.length() + 1);
        DUE.is("eight brackets", Due.fault(x, "fire [[[[[[[[1]]]]]]]]"), -1);
        DUE.is("nine", Due.fault(x, "fire [[[[[[[[[1]]]]]]]]]"), 13);
        DUE.is("nine of both kinds", Due.fault(x, "fire 1 if ((((iron(hot([[[1]]])))))"), 25);
        DUE.is("eight again and again", Due.fault(x, "fire [[[[[[[[1]]]]]]]]+[[[[[[[[1]]]]]]]]"), -1);
        DUE.is("nine rounds", Due.fault(x, "fire 1 if (((((((((1=1)))))))))"), 18);
        DUE.is("iron's counts", Due.fault(x, "fire [[[[[[[[iron(1)]]]]]]]]"), 17);
        DUE.is("many nots", Due.fault(x, "go 0 if " + "not ".repeat(90) + "1=1"), -1);
        x = new HotIron();
        DUE.is("400 bytes", Due.fault(x, " ".repeat(394) + "fire 1"), -1);
        DUE.is("a fault at 399", Due.fault(x, " ".repeat(393) + "fire 1?"), 399);
        DUE.is("an end at 400", Due.fault(x, " ".repeat(395) + "fire "), 400);
    }
}
