/** Promises 17 to 20: sheet, shown, stretch, told. */
public final class SheetTest {
    private static final Checks CHECKS = new Checks();

    public static void main(String[] args) {
        rows();
        wrongRows();
        tooManyFrames();
        stretching();
        telling();
        CHECKS.end();
    }

    private static void rows() {
        CartoonHouse house = new CartoonHouse();
        CHECKS.due("sheet", 9, Checks.sheet(house, 0, "3 -*2 15*3 (0 1)*1 -"));
        int[] due = {3, -1, -1, 15, 15, 15, 0, 1, -1, -1};
        for (int f = 0; f < due.length; f++) {
            CHECKS.due("shown " + f, due[f], house.shown(0, f));
        }
        CHECKS.due("shown", -1, house.shown(0, -1));
        CHECKS.due("shown", -1, house.shown(0, 120));
        CHECKS.due("shown", -1, house.shown(0, Integer.MIN_VALUE));
        CHECKS.due("shown", -1, house.shown(1, 0));
        CHECKS.due("shown", -1, house.shown(4, 0));
        CHECKS.due("shown", -1, house.shown(-1, 0));
        CHECKS.due("no layer", -1, Checks.sheet(house, 4, "1"));
        CHECKS.due("no layer", -1, Checks.sheet(house, -1, "x"));
        CHECKS.due("brackets", 12, Checks.sheet(house, 3, "(1 2*2)*3 5 (-)*2"));
        CHECKS.due("told", "1 2*2 1 2*2 1 2*2 5 -*2", Checks.told(house, 3));
        CHECKS.due("layer 0 stays", 3, house.shown(0, 0));
        CHECKS.due("once", 2, Checks.sheet(house, 3, "7*1 -*1"));
        CHECKS.due("told", "7 -", Checks.told(house, 3));
        CHECKS.due("99", 99, Checks.sheet(house, 3, "7*99"));
        CHECKS.due("120", 120, Checks.sheet(house, 3, "7*99 6*20 5"));
        CHECKS.due("shown", 5, house.shown(3, 119));
        CHECKS.due("120 by brackets", 120, Checks.sheet(house, 3, "(1*3 2*3)*20"));
        CHECKS.due("an empty one", 0, Checks.sheet(house, 3, ""));
        CHECKS.due("shown", -1, house.shown(3, 0));
    }

    private static void wrongRows() {
        CartoonHouse house = new CartoonHouse();
        Checks.sheet(house, 0, "4 5");
        String[] texts = {" ", "1 ", "1  2", "16", "1*", "1*0", "1*100", "1**2", "--", "-1", "x", "1,2", "1*2*3",
            "(", "()*2", "(1", "(1 ", "(1)", "(1)*", "(1)*0", "(1)*21", "((1)*2)*2", "(1 (2)*2)*2", "(1)2", "(1)*2 )",
            ")", "(1 )*2", "( 1)*2", "(1)*2(1)*2", "01", "1\n", "(1*100)*2", "*2", "1 2 15 16"};
        int[] places = {0, 2, 2, 0, 2, 2, 2, 2, 1, 1, 0, 1, 3,
            1, 1, 2, 3, 3, 4, 4, 4, 1, 3, 3, 6,
            0, 3, 1, 5, 1, 1, 3, 0, 7};
        for (int k = 0; k < texts.length; k++) {
            CHECKS.due("sheet " + texts[k], -1000 - places[k], Checks.sheet(house, 0, texts[k]));
        }
        CHECKS.due("nothing changed", "4 5", Checks.told(house, 0));
    }

    private static void tooManyFrames() {
        CartoonHouse house = new CartoonHouse();
        CHECKS.due("an item", -1005, Checks.sheet(house, 0, "1*99 2*22"));
        CHECKS.due("an item is asked when it has been read", -1007, Checks.sheet(house, 0, "1*99 2*100"));
        CHECKS.due("an item, then what follows", -1005, Checks.sheet(house, 0, "1*99 2*22x"));
        CHECKS.due("a single one", -1010, Checks.sheet(house, 0, "1*99 2*21 3"));
        CHECKS.due("a bracket", -1005, Checks.sheet(house, 0, "1*99 (2*11)*2"));
        CHECKS.due("a bracket that fits", 119, Checks.sheet(house, 0, "1*99 (2*10)*2"));
        CHECKS.due("an item in a bracket", -1011, Checks.sheet(house, 0, "1*99 (2*20 3*2)*1"));
        CHECKS.due("ahead of the bracket's form", -1011, Checks.sheet(house, 0, "1*99 (2*20 3*2 x"));
        CHECKS.due("the bracket's form ahead of its times", -1013, Checks.sheet(house, 0, "1*99 (2*20 3)x"));
        CHECKS.due("a number ahead of a bracket", -1012, Checks.sheet(house, 0, "1*99 (2*20)*21"));
        CHECKS.due("a bracket of twenty", -1000, Checks.sheet(house, 0, "(1*7)*20 x"));
        CHECKS.due("nothing changed", "1*99 2*20", Checks.told(house, 0));
    }

    private static void stretching() {
        CartoonHouse house = new CartoonHouse();
        CHECKS.due("of none", 0, house.stretch(0, 20, 1));
        Checks.sheet(house, 0, "0 1 2 3 4");
        CHECKS.due("by 1", 5, house.stretch(0, 7, 7));
        CHECKS.due("told", "0 1 2 3 4", Checks.told(house, 0));
        CHECKS.due("by 3 / 2", 7, house.stretch(0, 3, 2));
        CHECKS.due("told", "0*2 1 2*2 3 4", Checks.told(house, 0));
        CHECKS.due("by 1 / 3", 2, house.stretch(0, 1, 3));
        CHECKS.due("told", "0 2", Checks.told(house, 0));
        CHECKS.due("by 20", 40, house.stretch(0, 20, 1));
        CHECKS.due("told", "0*20 2*20", Checks.told(house, 0));
        CHECKS.due("full", -4, house.stretch(0, 4, 1));
        CHECKS.due("told", "0*20 2*20", Checks.told(house, 0));
        CHECKS.due("by 3", 120, house.stretch(0, 3, 1));
        CHECKS.due("full", -4, house.stretch(0, 20, 19));
        CHECKS.due("to none", 6, house.stretch(0, 1, 20));
        CHECKS.due("to none", 0, house.stretch(0, 1, 20));
        Checks.sheet(house, 1, "8 9");
        CHECKS.due("wrong", -1002, Checks.sheet(house, 1, "5 x"));
        CHECKS.due("nothing is left of a wrong one", 4, house.stretch(1, 2, 1));
        CHECKS.due("told", "8*2 9*2", Checks.told(house, 1));
        CHECKS.due("wrong", -1, house.stretch(0, 0, 1));
        CHECKS.due("wrong", -1, house.stretch(0, 1, 0));
        CHECKS.due("wrong", -1, house.stretch(0, 21, 1));
        CHECKS.due("wrong", -1, house.stretch(0, 1, 21));
        CHECKS.due("wrong", -1, house.stretch(4, 1, 1));
        CHECKS.due("wrong", -1, house.stretch(-1, 1, 1));
    }

    private static void telling() {
        CartoonHouse house = new CartoonHouse();
        CHECKS.due("told", -1, house.told(4));
        CHECKS.due("told", -1, house.told(-1));
        CHECKS.due("told", 0, house.told(0));
        Checks.sheet(house, 0, "1*50 1*50");
        CHECKS.due("told", "1*99 1", Checks.told(house, 0));
        Checks.sheet(house, 0, "1*50 1*49");
        CHECKS.due("told", "1*99", Checks.told(house, 0));
        Checks.sheet(house, 0, "2 1*60 1*50");
        CHECKS.due("told", "2 1*99 1*11", Checks.told(house, 0));
        Checks.sheet(house, 0, "2*9 1*90 1*5 3");
        CHECKS.due("told", "2*9 1*95 3", Checks.told(house, 0));
        Checks.sheet(house, 0, "-*60 -*60");
        CHECKS.due("told", "-*99 -*21", Checks.told(house, 0));
        Checks.sheet(house, 0, "(10 11)*20 (10 11)*20 (10 11)*20");
        CHECKS.due("the longest one", 359, house.told(0));
        CHECKS.due("told", Checks.repeat("10 11", 60), Checks.told(house, 0));
        CHECKS.due("what was told is read", 120, Checks.sheet(house, 1, Checks.out(house)));
        CHECKS.due("told", Checks.repeat("10 11", 60), Checks.told(house, 1));
    }
}
