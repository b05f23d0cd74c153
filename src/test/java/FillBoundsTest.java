/** Promises 12 to 16 and part III of the terms, at their bounds: a test for each sentence that names one. */
public final class FillBoundsTest {
    private static final Checks CHECKS = new Checks();
    private static final String BOX = "1 10,10 20,10 20,20 10,20 10,10";
    private static final String FRAME = "1 0,0 47,0 47,31 0,31 0,0";

    public static void main(String[] args) {
        fillsOfTheLeastAndTheMost();
        fillsOnAWall();
        fillsThatAreOpen();
        openAtEachSide();
        noStepLeavesTheSides();
        closingsOfAllEnds();
        closingsOfTheEndsThatAreThere();
        fillRefuses();
        sixFills();
        whatIsToldFirst();
        gapsOfNoughtAndEight();
        gapsAreSquaredDistances();
        endsThatAreAlike();
        stepsGoToTheSides();
        unfillMakesNumbersLess();
        unfillTakesSeedAndGapAlong();
        unfillRefuses();
        regionAsItIsNow();
        regionRefuses();
        paintOfTheLast();
        paintPastOpenFills();
        paintRefuses();
        coloursOfPalettes();
        colourRefuses();
        CHECKS.end();
    }

    private static Script on(String sentence) {
        return new Script(CHECKS, sentence);
    }

    private static void fillsOfTheLeastAndTheMost() {
        Script s = on("Promise 12: if its REGION is not OPEN and has a PIXEL: how many PIXELS that REGION has");
        s.text("1 10,10 12,10 12,12 10,12 10,10").due(0, "stroke", 0).due(1, "fill", 0, 11, 11, 0, 1);
        s.due(1, "count", 1);
        s.text(FRAME).due(0, "stroke", 1).due(46 * 30, "fill", 1, 1, 1, 0, 15).due(46 * 30, "fill", 1, 46, 30, 8, 1);
        s.due(3, "count", 1).due(1, "paint", 1, 1, 30).due(1, "paint", 0, 11, 11);
    }

    private static void fillsOnAWall() {
        Script s = on("Promise 12: 0: nothing comes");
        s.text(BOX).due(0, "stroke", 0).due(0, "fill", 0, 10, 10, 0, 2).due(0, "fill", 0, 20, 15, 8, 2);
        s.due(0, "count", 1);
        // a CLOSING is a WALL as well, its ends have INK
        s.text("1 30,10 30,20").due(1, "stroke", 0).text("1 34,10 34,20").due(2, "stroke", 0);
        s.due(-5, "fill", 0, 32, 10, 3, 2).due(0, "fill", 0, 32, 10, 4, 2).due(0, "fill", 0, 30, 10, 4, 2);
        s.due(27, "fill", 0, 32, 15, 4, 2).due(0, "paint", 0, 32, 10).due(1, "count", 1);
    }

    private static void fillsThatAreOpen() {
        Script s = on("Promise 12: OPEN: nothing comes");
        s.due(-5, "fill", 0, 24, 16, 8, 1).due(-5, "fill", 0, 0, 0, 0, 1).due(-5, "fill", 0, 47, 31, 0, 1);
        s.due(0, "count", 1);
        s.text(BOX).due(0, "stroke", 0).due(-5, "fill", 0, 9, 15, 0, 1).due(-5, "fill", 0, 21, 15, 0, 1);
        s.due(0, "count", 1);
    }

    private static void openAtEachSide() {
        Script s = on("Part III: OPEN if one of them lies in column 0 or 47, or row 0 or 31");
        // shafts of one PIXEL's breadth, at first up to the side, then one PIXEL short of it
        String[] open = {"1 0,9 5,9 5,11 0,11", "1 47,9 42,9 42,11 47,11", "1 9,0 9,5 11,5 11,0", "1 9,31 9,26 11,26 11,31"};
        String[] shut = {"2 0,9 0,11", "2 47,9 47,11", "2 9,0 11,0", "2 9,31 11,31"};
        int[][] seeds = {{4, 10}, {43, 10}, {10, 4}, {10, 27}};
        for (int k = 0; k < 4; k++) {
            s.text(open[k]).due(0, "stroke", k).due(-5, "fill", k, seeds[k][0], seeds[k][1], 0, 1);
            s.text(shut[k]).due(1, "stroke", k).due(4, "fill", k, seeds[k][0], seeds[k][1], 0, 1);
        }
        // a REGION of column 1 and row 1, or of column 46 and row 30, is not
        s.text("1 0,0 2,0 2,2 0,2 0,0").due(0, "stroke", 5).due(1, "fill", 5, 1, 1, 0, 1);
        s.text("1 45,29 47,29 47,31 45,31 45,29").due(1, "stroke", 5).due(1, "fill", 5, 46, 30, 0, 1);
        // one PIXEL at a corner is
        s.text("1 1,0 1,1 0,1").due(0, "stroke", 6).due(-5, "fill", 6, 0, 0, 0, 1).due(6, "count", 1);
    }

    private static void noStepLeavesTheSides() {
        Script s = on("Part III: by steps to the left, right: none from one side of the paper to the other");
        // 0,10 and 47,9 have WALLS all around but for the sides
        s.text("1 0,9 1,9 1,11 0,11").due(0, "stroke", 0).text("1 47,8 46,8 46,10 47,10").due(1, "stroke", 0);
        s.due(-5, "fill", 0, 0, 10, 0, 1).due(-5, "fill", 0, 47, 9, 0, 1);
        String[] cells = {"1 0,9 1,9 1,11 0,11", "1 47,9 46,9 46,11 47,11", "1 9,0 9,1 11,1 11,0", "1 9,31 9,30 11,30 11,31",
            "1 1,0 1,1 0,1", "1 46,31 46,30 47,30", "1 46,0 46,1 47,1", "1 0,30 1,30 1,31"};
        int[][] seeds = {{0, 10}, {47, 10}, {10, 0}, {10, 31}, {0, 0}, {47, 31}, {47, 0}, {0, 31}};
        for (int k = 0; k < cells.length; k++) {
            s.text(cells[k]).due(0, "stroke", k + 1).due(-5, "fill", k + 1, seeds[k][0], seeds[k][1], 0, 1);
        }
        s.due(0, "count", 1);
    }

    private static void closingsOfAllEnds() {
        Script s = on("Part III: the LINES between each two ENDS, of eight STROKES");
        // a ring of eight, each short by two of the next one
        String[] strokes = {"1 10,10 18,10", "2 20,10 28,10", "3 30,10 30,14", "4 30,16 30,20", "5 28,20 20,20", "6 18,20 10,20",
            "7 8,20 8,16", "8 8,14 8,10"};
        for (int k = 0; k < 8; k++) {
            s.text(strokes[k]).due(k, "stroke", 0);
        }
        s.due(-5, "fill", 0, 15, 15, 1, 1).due(21 * 9, "fill", 0, 15, 15, 2, 1);
        for (int k = 0; k < 8; k++) {
            s.due(7, "take", 0, 0).due(-5, "region", 0, 0).text(strokes[k]).due(7, "stroke", 0);
            s.due(21 * 9, "region", 0, 0);
        }
    }

    private static void closingsOfTheEndsThatAreThere() {
        Script s = on("Part III: ENDS of each STROKE that is there, and no others");
        // short by 4: 2,0 and 0,2 would be closed by an END at 0,0 between them
        s.text("1 2,0 9,0 9,9 0,9 0,2").due(0, "stroke", 0).due(-5, "fill", 0, 5, 5, 2, 1);
        s.due(64 - 1, "fill", 0, 5, 5, 3, 1);
        s.text("1 0,0 0,1").due(1, "stroke", 0).due(64, "fill", 0, 5, 5, 2, 1).due(1, "take", 0, 1);
        s.due(-5, "region", 0, 1);
        s.due(-5, "fill", 0, 5, 5, 2, 1);
    }

    private static void fillRefuses() {
        Script s = on("Promise 12: NONE if one of these can't be");
        s.text(BOX).due(0, "stroke", 0);
        s.outside(-1, "fill", Script.with(0, 15, 15, 8, 15), 0, 15, 0, 47, 0, 31, 0, 8, 1, 15).due(0, "count", 1);
        s.due(81, "fill", 0, 15, 15, 8, 15).due(81, "fill", 0, 15, 15, 0, 1);
    }

    private static void sixFills() {
        Script s = on("Promise 12: FULL");
        s.text(BOX).due(0, "stroke", 5).text(BOX).due(0, "stroke", 6);
        for (int k = 1; k <= 6; k++) {
            s.due(81, "fill", 5, 15, 15, k, k).due(k, "count", 1);
        }
        s.due(-4, "fill", 5, 15, 15, 0, 7).due(6, "count", 1).due(6, "paint", 5, 15, 15);
        s.due(81, "fill", 6, 15, 15, 0, 7);
        s.due(5, "unfill", 5, 0).due(81, "fill", 5, 15, 15, 0, 7).due(-4, "fill", 5, 15, 15, 0, 8);
        s.due(7, "paint", 5, 15, 15);
    }

    private static void whatIsToldFirst() {
        Script s = on("Promise 12: NONE, then FULL, then 0 and OPEN");
        s.text(BOX).due(0, "stroke", 0);
        for (int k = 1; k <= 6; k++) {
            s.due(81, "fill", 0, 15, 15, 0, 1);
        }
        s.due(-4, "fill", 0, 10, 10, 0, 1).due(-4, "fill", 0, 0, 0, 0, 1);
        s.outside(-1, "fill", Script.with(0, 15, 15, 0, 1), 0, 15, 0, 47, 0, 31, 0, 8, 1, 15);
    }

    private static void gapsOfNoughtAndEight() {
        Script s = on("Part III: a GAP 0 .. 8");
        // a box whose left side lacks the lowest 8, and another that lacks 9
        s.text("1 10,10 10,5 20,5 20,20 10,20 10,18").due(0, "stroke", 0).due(-5, "fill", 0, 15, 15, 0, 1);
        s.due(-5, "fill", 0, 15, 15, 7, 1).due(9 * 14, "fill", 0, 15, 15, 8, 1);
        s.text("1 10,9 10,5 20,5 20,20 10,20 10,18").due(0, "stroke", 1).due(-5, "fill", 1, 15, 15, 8, 1);
        // ends next to each other need no CLOSING
        s.text("1 10,11 10,5 20,5 20,20 10,20 10,12").due(0, "stroke", 2).due(9 * 14, "fill", 2, 15, 15, 0, 1);
    }

    private static void gapsAreSquaredDistances() {
        Script s = on("Part III: whose squared distance is not above GAP * GAP");
        // a corner lacks 3 and 4: 25; another one 4 and 4: 32; another one 5 and 6: 61; another 1 and 8: 65
        s.text("1 13,10 20,10 20,20 10,20 10,14").due(0, "stroke", 0).due(-5, "fill", 0, 17, 17, 4, 1);
        s.due(76, "fill", 0, 17, 17, 5, 1);
        s.text("1 14,10 20,10 20,20 10,20 10,14").due(0, "stroke", 1).due(-5, "fill", 1, 17, 17, 5, 1);
        s.due(75, "fill", 1, 17, 17, 6, 1);
        s.text("1 15,10 20,10 20,20 10,20 10,16").due(0, "stroke", 2).due(-5, "fill", 2, 17, 17, 7, 1);
        CHECKS.due("61 is not above 64", 1, s.same("fill", 2, 17, 17, 8, 1) > 0 ? 1 : 0);
        s.text("1 11,10 20,10 20,20 10,20 10,18").due(0, "stroke", 3).due(-5, "fill", 3, 17, 17, 8, 1);
        s.text("1 10,10 20,10 20,20 10,20 10,18").due(0, "stroke", 4).due(81, "fill", 4, 17, 17, 8, 1);
    }

    private static void endsThatAreAlike() {
        Script s = on("Part III: ENDS of each STROKE whose two are not alike; CLOSINGS between those that are not alike");
        // the ring's first POINT would close the box's side, were it an end
        s.text("1 10,10 20,10 20,20 10,20 10,14").due(0, "stroke", 0).text("1 10,12 8,12 10,12").due(1, "stroke", 0);
        s.due(-5, "fill", 0, 15, 15, 2, 1).due(1, "take", 0, 1).text("1 10,12 8,12").due(1, "stroke", 0);
        s.due(81, "fill", 0, 15, 15, 2, 1).due(1, "take", 0, 1).text("1 8,12 10,12").due(1, "stroke", 0);
        s.due(81, "fill", 0, 15, 15, 2, 1);
        // two ends on one PIXEL: no CLOSING between them, but from both to the third
        s.text("1 30,10 30,20").due(0, "stroke", 1).text("1 30,20 40,20").due(1, "stroke", 1);
        s.text("1 40,20 40,10 32,10").due(2, "stroke", 1).due(-5, "fill", 1, 35, 15, 1, 1);
        s.due(81, "fill", 1, 35, 15, 2, 1);
    }

    private static void stepsGoToTheSides() {
        Script s = on("Part III: by steps to the left, right, up, down past no WALL");
        s.text("1 10,5 15,10 10,15 5,10 10,5").due(0, "stroke", 0).due(41, "fill", 0, 10, 10, 0, 1);
        // a corner alone lets nothing through
        s.text("1 20,10 22,10 22,12 20,12 20,10").due(1, "stroke", 0).text("1 22,12 24,12 24,14 22,14 22,12");
        s.due(2, "stroke", 0);
        s.due(1, "fill", 0, 21, 11, 0, 1).due(1, "fill", 0, 23, 13, 0, 1);
        // a long way round: a snail
        s.text("1 2,20 45,20 45,30 2,30 2,20").due(0, "stroke", 1).text("1 4,20 4,28").due(1, "stroke", 1);
        s.text("1 6,22 6,30").due(2, "stroke", 1).text("1 8,20 8,28").due(3, "stroke", 1);
        s.due(42 * 9 - 24, "fill", 1, 3, 21, 0, 2).due(2, "paint", 1, 44, 29).due(2, "paint", 1, 5, 21);
    }

    private static void unfillMakesNumbersLess() {
        Script s = on("Promise 13: a FILL goes, those behind it have numbers less by one: how many are left");
        s.text("1 10,10 20,10 20,20 10,20 10,13").due(0, "stroke", 0);
        for (int k = 3; k <= 8; k++) {
            s.due(81, "fill", 0, 9 + k, 15, k, k);
        }
        s.due(5, "unfill", 0, 5).due(7, "paint", 0, 15, 15).due(4, "unfill", 0, 0).due(3, "unfill", 0, 1);
        s.due(7, "paint", 0, 15, 15).due(2, "unfill", 0, 2).due(6, "paint", 0, 15, 15).due(1, "unfill", 0, 1);
        s.due(4, "paint", 0, 15, 15).due(81, "region", 0, 0).due(0, "unfill", 0, 0).due(0, "paint", 0, 15, 15);
        s.due(-1, "unfill", 0, 0).due(0, "count", 1).due(81, "fill", 0, 15, 15, 3, 9).due(9, "paint", 0, 15, 15);
    }

    private static void unfillTakesSeedAndGapAlong() {
        Script s = on("Promise 13: those behind it have numbers less by one, with all that they have");
        s.text("1 2,2 6,2 6,6 2,6 2,2").due(0, "stroke", 0).text("1 10,10 20,10 20,20 10,20 10,13").due(1, "stroke", 0);
        s.text("1 30,10 40,10 40,20 30,20 30,15").due(2, "stroke", 0);
        s.due(9, "fill", 0, 4, 4, 0, 1).due(81, "fill", 0, 15, 15, 3, 2).due(81, "fill", 0, 35, 15, 5, 3);
        s.due(2, "unfill", 0, 0).due(81, "region", 0, 0).due(81, "region", 0, 1).due(-1, "region", 0, 2);
        s.due(0, "paint", 0, 4, 4).due(2, "paint", 0, 15, 15).due(3, "paint", 0, 35, 15).due(1, "unfill", 0, 0);
        s.due(81, "region", 0, 0);
        s.due(0, "paint", 0, 15, 15).due(3, "paint", 0, 35, 15);
    }

    private static void unfillRefuses() {
        Script s = on("Promise 13: NONE if there is none such");
        s.due(-1, "unfill", 0, 0).text(BOX).due(0, "stroke", 0).due(-1, "unfill", 0, 0);
        s.due(81, "fill", 0, 15, 15, 0, 3).due(81, "fill", 0, 15, 15, 0, 4);
        s.outside(-1, "unfill", Script.with(0, 0), 0, 15, 0, 1).due(-1, "unfill", 15, 0).due(2, "count", 1);
        s.due(4, "paint", 0, 15, 15).due(1, "unfill", 0, 1).due(-1, "unfill", 0, 1);
    }

    private static void regionAsItIsNow() {
        Script s = on("Promise 14: how many PIXELS the REGION of a FILL has now; OPEN");
        s.text(BOX).due(0, "stroke", 0).due(81, "fill", 0, 15, 15, 0, 3).due(81, "region", 0, 0);
        s.text("2 11,15 19,15").due(1, "stroke", 0).due(0, "region", 0, 0).due(0, "paint", 0, 12, 12);
        s.due(1, "take", 0, 1);
        s.text("2 15,11 15,14").due(1, "stroke", 0).due(77, "region", 0, 0).due(1, "erase", 0, 10, 12, 0);
        s.due(-5, "region", 0, 0).due(0, "paint", 0, 12, 12).due(1, "count", 1).text("1 10,10 10,20");
        s.due(2, "stroke", 0);
        s.due(77, "region", 0, 0).due(3, "paint", 0, 12, 12);
    }

    private static void regionRefuses() {
        Script s = on("Promise 14: NONE if there is none such");
        s.due(-1, "region", 0, 0).text(BOX).due(0, "stroke", 0).due(-1, "region", 0, 0);
        s.due(81, "fill", 0, 15, 15, 0, 3);
        s.outside(-1, "region", Script.with(0, 0), 0, 15, 0, 0).due(-1, "region", 15, 0).due(81, "region", 0, 0);
    }

    private static void paintOfTheLast() {
        Script s = on("Part III: its INK; else the COLOUR of the last FILL whose REGION has it; else 0");
        s.text("1 0,0 47,0").due(0, "stroke", 0).text("15 0,0 0,31").due(1, "stroke", 0).due(15, "paint", 0, 0, 0);
        s.due(1, "paint", 0, 1, 0).due(15, "paint", 0, 0, 31).due(1, "paint", 0, 47, 0).due(0, "paint", 0, 47, 31);
        s.text(BOX).due(0, "stroke", 1).due(81, "fill", 1, 15, 15, 0, 7).due(81, "fill", 1, 12, 12, 0, 8);
        s.due(8, "paint", 1, 15, 15).due(1, "paint", 1, 10, 15).due(0, "paint", 1, 9, 15);
        // a STROKE through it: its INK, and each FILL where its seed is
        s.text("9 15,10 15,20").due(1, "stroke", 1).due(9, "paint", 1, 15, 15).due(8, "paint", 1, 14, 15);
        s.due(0, "paint", 1, 16, 15);
    }

    private static void paintPastOpenFills() {
        Script s = on("Part III: as the drawing is now, is not OPEN");
        s.text(BOX).due(0, "stroke", 0).due(81, "fill", 0, 15, 15, 3, 3).due(81, "fill", 0, 15, 15, 2, 4);
        s.due(81, "fill", 0, 11, 16, 2, 5).due(5, "paint", 0, 15, 15).due(0, "take", 0, 0).due(0, "paint", 0, 15, 15);
        // a side is short by 3: past a GAP of 2 it is OPEN, so the first FILL is the last one that has it
        s.text("1 10,10 20,10 20,20 10,20 10,13").due(0, "stroke", 0).due(3, "paint", 0, 15, 15);
        s.due(-5, "region", 0, 2);
        // shut again, but the last one's seed is a WALL
        s.text("1 10,10 11,16 10,10").due(1, "stroke", 0).text("1 10,10 10,20").due(2, "stroke", 0);
        s.due(0, "region", 0, 2);
        s.due(4, "paint", 0, 15, 15).due(3, "count", 1);
    }

    private static void paintRefuses() {
        Script s = on("Promise 15: NONE if there is none such");
        s.text(FRAME).due(0, "stroke", 0).outside(-1, "paint", Script.with(0, 0, 0), 0, 15, 0, 47, 0, 31);
        s.due(1, "paint", 0, 47, 31).due(1, "paint", 0, 0, 0).due(0, "paint", 15, 47, 31);
    }

    private static void coloursOfPalettes() {
        Script s = on("Promise 16: a PALETTE's number for a COLOUR is another one: what it was");
        for (int p = 0; p < 4; p++) {
            s.due(1118481, "colour", p, 1, 0).due(0, "colour", p, 1, 16777215).due(16777215, "colour", p, 1, p);
            s.due(16777215, "colour", p, 15, p + 10).due(2 * 1118481, "colour", p, 2, 2 * 1118481);
        }
        for (int p = 0; p < 4; p++) {
            s.due(p, "colour", p, 1, 5).due(p + 10, "colour", p, 15, 5);
        }
    }

    private static void colourRefuses() {
        Script s = on("Promise 16: NONE if one can't be");
        s.outside(-1, "colour", Script.with(0, 1, 0), 0, 3, 1, 15, 0, 16777215);
        s.due(1118481, "colour", 0, 1, 7).due(1118481, "colour", 3, 1, 7).due(16777215, "colour", 0, 15, 7);
    }
}
