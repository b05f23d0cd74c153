/** Promises 17 to 20 and part IV of the terms, at their bounds: a test for each sentence that names one. */
public final class SheetBoundsTest {
    private static final Checks CHECKS = new Checks();

    public static void main(String[] args) {
        rowsOfNone();
        itemsOfDrawings();
        itemsOfManyFrames();
        bracketsOfManyTimes();
        bracketsHaveNoBracketsWithin();
        bracketsAreNotEmpty();
        blanksAreBetweenItems();
        itemsThatAreOneTooMany();
        itemsInBracketsThatAreOneTooMany();
        bracketsThatAreOneTooMany();
        tooManyIsAskedWhenItHasBeenRead();
        sheetRefuses();
        aWrongRowChangesNothing();
        aWrongRowIsNotStretched();
        shownAtTheEnds();
        shownRefuses();
        stretchesToNothingAndToTheMost();
        stretchesByTheLeastAndTheMost();
        stretchIsFullAndDoesNothing();
        stretchRefuses();
        toldOfNothing();
        toldOfOneAndOfMoreThan99();
        toldOfTheLongestStretches();
        toldOfTheMostBytes();
        toldRefuses();
        CHECKS.end();
    }

    private static Script on(String sentence) {
        return new Script(CHECKS, sentence);
    }

    private static void rowsOfNone() {
        Script s = on("Part IV: an empty text is a ROW of none");
        s.due(0, "sheet", 0).text("1 2").due(2, "sheet", 0).due(0, "sheet", 0).due(-1, "shown", 0, 0).told(0, "");
        s.wrong(0, " ", "sheet", 0);
    }

    private static void itemsOfDrawings() {
        Script s = on("Part IV: an ITEM is a drawing, or - for nothing");
        s.text("0 15 -").due(3, "sheet", 0).due(0, "shown", 0, 0).due(15, "shown", 0, 1).due(-1, "shown", 0, 2);
        s.wrong(0, "16", "sheet", 0).wrong(2, "0 16*2", "sheet", 0).wrong(1, "-1", "sheet", 0);
        s.wrong(1, "--", "sheet", 0);
        s.wrong(0, "x", "sheet", 0).wrong(1, "1x", "sheet", 0).wrong(0, "*2", "sheet", 0).wrong(1, "1,2", "sheet", 0);
        s.told(0, "0 15 -");
    }

    private static void itemsOfManyFrames() {
        Script s = on("Part IV: perhaps followed by * and a NUMBER 1 .. 99 (so many FRAMES; else one)");
        s.text("3").due(1, "sheet", 0).text("3*1").due(1, "sheet", 0).text("3*2").due(2, "sheet", 0);
        s.text("-*99").due(99, "sheet", 0).text("3*99").due(99, "sheet", 0).due(3, "shown", 0, 98);
        s.due(-1, "shown", 0, 99);
        s.wrong(2, "3*0", "sheet", 0).wrong(2, "3*100", "sheet", 0).wrong(2, "-*100", "sheet", 0);
        s.wrong(2, "3**", "sheet", 0);
        s.wrong(3, "3*2*2", "sheet", 0).wrong(2, "3* 2", "sheet", 0).wrong(2, "3*-1", "sheet", 0);
        s.wrong(2, "3 *2", "sheet", 0);
        s.told(0, "3*99");
    }

    private static void bracketsOfManyTimes() {
        Script s = on("Part IV: in ( and ), followed by * and a NUMBER 1 .. 20: so many times");
        s.text("(3)*1").due(1, "sheet", 0).text("(3 -)*20").due(40, "sheet", 0).due(3, "shown", 0, 38);
        s.due(-1, "shown", 0, 39);
        s.wrong(4, "(3)*0", "sheet", 0).wrong(4, "(3)*21", "sheet", 0).wrong(3, "(3)", "sheet", 0);
        s.wrong(3, "(3) 1", "sheet", 0);
        s.wrong(4, "(3)*", "sheet", 0).wrong(5, "(3)*2*2", "sheet", 0).wrong(3, "(3)2", "sheet", 0);
        s.wrong(4, "(3)**", "sheet", 0);
        s.text("(1*2 2)*3 5 (-)*2").due(12, "sheet", 0).told(0, "1*2 2 1*2 2 1*2 2 5 -*2");
    }

    private static void bracketsHaveNoBracketsWithin() {
        Script s = on("Part IV: no brackets within");
        s.wrong(1, "((1)*2)*2", "sheet", 0).wrong(3, "(1 (2)*2)*2", "sheet", 0).wrong(2, "(1(", "sheet", 0);
        s.wrong(0, ")", "sheet", 0).wrong(5, "(1)*2)", "sheet", 0).wrong(6, "(1)*2 )", "sheet", 0);
        s.wrong(1, "1(2)*2", "sheet", 0);
        s.text("(1)*2 (2)*2").due(4, "sheet", 0).wrong(5, "(1)*2(2)*2", "sheet", 0);
    }

    private static void bracketsAreNotEmpty() {
        Script s = on("Part IV: such ITEMS (one at least)");
        s.wrong(1, "()*2", "sheet", 0).wrong(1, "( )*2", "sheet", 0).wrong(1, "( 1)*2", "sheet", 0);
        s.wrong(3, "(1 )*2", "sheet", 0);
        s.wrong(1, "(*2", "sheet", 0).text("(1)*2").due(2, "sheet", 0);
    }

    private static void blanksAreBetweenItems() {
        Script s = on("Part IV: ITEMS with a blank between");
        s.wrong(2, "1  2", "sheet", 0).wrong(0, " 1", "sheet", 0).wrong(2, "1 ", "sheet", 0);
        s.wrong(3, "(1  2)*2", "sheet", 0);
        s.wrong(1, "1\n2", "sheet", 0).wrong(2, "12-", "sheet", 0).wrong(6, "(1)*2 ", "sheet", 0).text("1 2");
        s.due(2, "sheet", 0);
    }

    private static void itemsThatAreOneTooMany() {
        Script s = on("Part IV: an ITEM by which the ROW would have more than 120 FRAMES is one too many");
        s.text("1*99 2*21").due(120, "sheet", 0).wrong(5, "1*99 2*22", "sheet", 0).wrong(10, "1*99 2*21 3", "sheet", 0);
        s.wrong(10, "1*99 2*21 -", "sheet", 0).wrong(10, "1*99 2*21 3*1", "sheet", 0);
        s.wrong(5, "1*99 -*99 x", "sheet", 0);
        // the blank ahead of it is right, so a text that ends there is too short
        s.wrong(10, "1*99 2*21 ", "sheet", 0).wrong(9, "1*99 2*21x", "sheet", 0);
        s.text("1*99 2*20 3").due(120, "sheet", 0).due(3, "shown", 0, 119).text(Checks.repeat("1", 120));
        s.due(120, "sheet", 0);
        s.wrong(240, Checks.repeat("1", 121), "sheet", 0);
    }

    private static void itemsInBracketsThatAreOneTooMany() {
        Script s = on("Part IV: a bracket's ITEMS once at least, looked at as they come");
        s.text("1*99 (2*21)*1").due(120, "sheet", 0).wrong(6, "1*99 (2*22)*1", "sheet", 0);
        s.wrong(6, "1*99 (2*22)*2", "sheet", 0).wrong(11, "1*99 (2*21 3)*1", "sheet", 0);
        s.wrong(6, "(1*99 2*22)*2", "sheet", 0);
        s.wrong(6, "1*99 (2*22", "sheet", 0).wrong(11, "1*99 (2*21 3", "sheet", 0).wrong(10, "(1*99 2*21", "sheet", 0);
    }

    private static void bracketsThatAreOneTooMany() {
        Script s = on("Part IV: then the ( for the rest");
        s.text("(1*6)*20").due(120, "sheet", 0).wrong(0, "(1*7)*20", "sheet", 0).wrong(0, "(1*61)*2", "sheet", 0);
        s.text("1*20 (2*50)*2").due(120, "sheet", 0).wrong(5, "1*21 (2*50)*2", "sheet", 0);
        s.wrong(5, "1*99 (2*21)*2", "sheet", 0);
        s.wrong(10, "(1*60)*2 (2)*1", "sheet", 0).wrong(9, "(1*60)*2 2", "sheet", 0);
        s.wrong(0, "(1*99 2*21)*2", "sheet", 0);
    }

    private static void tooManyIsAskedWhenItHasBeenRead() {
        Script s = on("Part I: an ITEM, a bracket are asked for this when they have been read");
        s.wrong(12, "1*99 2*21 3*", "sheet", 0).wrong(12, "1*99 2*21 3*x", "sheet", 0);
        s.wrong(12, "1*99 2*21 3*0", "sheet", 0);
        s.wrong(12, "1*99 2*21 3*100", "sheet", 0).wrong(10, "1*99 2*21 16", "sheet", 0);
        s.wrong(10, "1*99 2*21 3x", "sheet", 0);
        s.wrong(11, "1*99 2*21 03", "sheet", 0).wrong(10, "1*99 2*21 -1", "sheet", 0);
        s.wrong(7, "(1*61)*", "sheet", 0).wrong(7, "(1*61)*0", "sheet", 0).wrong(7, "(1*61)*21", "sheet", 0);
        s.wrong(6, "(1*61)", "sheet", 0).wrong(0, "(1*61)*2x", "sheet", 0).wrong(5, "(1*61", "sheet", 0);
        s.due(-1, "shown", 0, 0);
    }

    private static void sheetRefuses() {
        Script s = on("Promise 17: NONE if there is no such LAYER, told ahead of WRONG");
        for (int l : new int[] {-1, 4, Integer.MIN_VALUE, Integer.MAX_VALUE}) {
            s.text("1 2").due(-1, "sheet", l).text("x").due(-1, "sheet", l).due(-1, "sheet", l);
        }
        for (int l = 0; l < 4; l++) {
            s.due(-1, "shown", l, 0).text(l + " 5").due(2, "sheet", l);
        }
        for (int l = 0; l < 4; l++) {
            s.due(l, "shown", l, 0);
        }
    }

    private static void aWrongRowChangesNothing() {
        Script s = on("Promise 17: THE TAPE is the ROW of a LAYER, but for WRONG");
        s.text("4 5*3").due(4, "sheet", 2).wrong(4, "7*9 x", "sheet", 2).wrong(0, "(7*99)*2", "sheet", 2);
        s.told(2, "4 5*3");
        s.text("9").due(1, "sheet", 2).told(2, "9").due(-1, "shown", 2, 1);
    }

    private static void aWrongRowIsNotStretched() {
        Script s = on("Promise 19: a LAYER's ROW is STRETCHED, not what was WRONG");
        s.text("4 5*3").due(4, "sheet", 2).wrong(4, "7*9 x", "sheet", 2).due(8, "stretch", 2, 2, 1).told(2, "4*2 5*6");
        s.wrong(4, "9*3 x", "sheet", 2).due(4, "stretch", 2, 1, 2).told(2, "4 5*3");
    }

    private static void shownAtTheEnds() {
        Script s = on("Part IV: behind its end nothing");
        s.text("7*99 6*20 5").due(120, "sheet", 3).due(7, "shown", 3, 0).due(7, "shown", 3, 98).due(6, "shown", 3, 99);
        s.due(6, "shown", 3, 118).due(5, "shown", 3, 119).due(-1, "shown", 3, 120);
        s.text("7 6").due(2, "sheet", 3).due(6, "shown", 3, 1).due(-1, "shown", 3, 2).due(-1, "shown", 3, 119);
    }

    private static void shownRefuses() {
        Script s = on("Promise 18: NONE for nothing, or none such");
        s.text("7*99 -*20 5").due(120, "sheet", 0).outside(-1, "shown", Script.with(0, 0), 0, 3, 0, 119);
        s.due(-1, "shown", 0, 99).due(-1, "shown", 1, 0).due(5, "shown", 0, 119);
    }

    private static void stretchesToNothingAndToTheMost() {
        Script s = on("Part IV: of n FRAMES it has DIV(n * a, b) then, of which f SHOWS what DIV(f * b, a) showed");
        s.due(0, "stretch", 0, 20, 1).text("1").due(1, "sheet", 0).due(1, "stretch", 0, 20, 20);
        s.due(1, "stretch", 0, 3, 2);
        s.due(0, "stretch", 0, 1, 2).told(0, "").due(0, "stretch", 0, 20, 1);
        s.text("1 2 3 4 5 6").due(6, "sheet", 0).due(120, "stretch", 0, 20, 1).told(0, "1*20 2*20 3*20 4*20 5*20 6*20");
        s.due(6, "stretch", 0, 1, 20).told(0, "1 2 3 4 5 6").due(3, "stretch", 0, 1, 2).told(0, "1 3 5");
        s.due(4, "stretch", 0, 3, 2).told(0, "1*2 3 5").due(2, "stretch", 0, 2, 3).told(0, "1*2");
    }

    private static void stretchesByTheLeastAndTheMost() {
        Script s = on("Promise 19: a and b 1 .. 20");
        s.text("1 2*2").due(3, "sheet", 1).due(3, "stretch", 1, 1, 1).due(3, "stretch", 1, 20, 20).told(1, "1 2*2");
        s.due(2, "stretch", 1, 19, 20).told(1, "1 2").due(40, "stretch", 1, 20, 1).told(1, "1*20 2*20");
        s.due(38, "stretch", 1, 19, 20).told(1, "1*19 2*19").due(40, "stretch", 1, 20, 19).told(1, "1*20 2*20");
    }

    private static void stretchIsFullAndDoesNothing() {
        Script s = on("Promise 19: FULL, and nothing, if these would be more than 120");
        s.text("1*80 2").due(81, "sheet", 0).due(-4, "stretch", 0, 3, 2).told(0, "1*80 2").due(-4, "stretch", 0, 20, 1);
        s.text("1*80").due(80, "sheet", 0).due(120, "stretch", 0, 3, 2).due(120, "stretch", 0, 20, 20);
        s.due(-4, "stretch", 0, 20, 19);
        s.due(120, "stretch", 0, 1, 1).due(-4, "stretch", 0, 2, 1).told(0, "1*99 1*21");
        // 121 and a bit is too many, 120 and a bit is not
        s.text("1*93").due(93, "sheet", 0).due(120, "stretch", 0, 13, 10).text("1*91").due(91, "sheet", 0);
        s.due(-4, "stretch", 0, 4, 3);
    }

    private static void stretchRefuses() {
        Script s = on("Promise 19: NONE if one can't be");
        s.text("1*99 2*21").due(120, "sheet", 0).outside(-1, "stretch", Script.with(0, 1, 1), 0, 3, 1, 20, 1, 20);
        s.told(0, "1*99 2*21");
    }

    private static void toldOfNothing() {
        Script s = on("Promise 20: a ROW of none: how many bytes");
        s.told(0, "").text("-").due(1, "sheet", 0).told(0, "-").text("-*2").due(2, "sheet", 0).told(0, "-*2");
        s.due(0, "sheet", 0);
        s.told(0, "").told(3, "");
    }

    private static void toldOfOneAndOfMoreThan99() {
        Script s = on("Promise 20: * and the NUMBER but for 1 (more than 99: 99, then what is left)");
        s.text("15").due(1, "sheet", 0).told(0, "15").text("15*2").due(2, "sheet", 0).told(0, "15*2");
        s.text("1*98").due(98, "sheet", 0).told(0, "1*98").text("1*99").due(99, "sheet", 0).told(0, "1*99");
        s.text("1*99 1").due(100, "sheet", 0).told(0, "1*99 1").text("1*99 1*2").due(101, "sheet", 0);
        s.told(0, "1*99 1*2");
        s.text("-*60 -*60").due(120, "sheet", 0).told(0, "-*99 -*21").text("2*10 1*99 1*11").due(120, "sheet", 0);
        s.told(0, "2*10 1*99 1*11").text("1*20 2*99 3").due(120, "sheet", 0).told(0, "1*20 2*99 3");
    }

    private static void toldOfTheLongestStretches() {
        Script s = on("Promise 20: in ITEMS without brackets, each the longest stretch of the same");
        s.text("(1 1)*2 1*3 - -*2 (2)*3 1").due(14, "sheet", 0).told(0, "1*7 -*3 2*3 1");
        s.text("0 10 0 1 0").due(5, "sheet", 0).told(0, "0 10 0 1 0");
    }

    private static void toldOfTheMostBytes() {
        Script s = on("Promise 20: how many bytes, at the most");
        s.text("(10 11)*20 (10 11)*20 (10 11)*20").due(120, "sheet", 0).due(359, "told", 0);
        for (int k = 0; k < 359; k++) {
            s.due("10 11 ".charAt(k % 6), "out", k);
        }
        s.due(-1, "out", 359);
    }

    private static void toldRefuses() {
        Script s = on("Promise 20: NONE if there is no such LAYER");
        s.text("5").due(1, "sheet", 3).told(3, "5").outside(-1, "told", Script.with(0), 0, 3).out("5");
    }
}
