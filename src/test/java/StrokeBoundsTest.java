/** Promises 5 to 11 and part II of the terms, at their bounds: a test for each sentence that names one. */
public final class StrokeBoundsTest {
    private static final Checks CHECKS = new Checks();
    private static final String ZIGZAG = "0,0 1,0 0,0 1,0 0,0 1,0 0,0 1,0 0,0 1,0";

    public static void main(String[] args) {
        strokesAreNumberedFromNought();
        coloursOfStrokes();
        pointsLieOnThePaper();
        pointsAreTwoToTen();
        noPointIsLikeTheOneBefore();
        strokesOfNoDrawing();
        eightStrokes();
        takeMakesNumbersLess();
        takeRefuses();
        writtenOfNothingAndOfTheMost();
        writtenRefuses();
        fitsAtTheBoundsOfTheError();
        fitsOfPointsThatAreJustClose();
        fitsOfPointsThatAreAlike();
        fitRefuses();
        erasesAtTheBoundsOfTheRadius();
        erasesNothingAndAll();
        erasesInItsPlace();
        eraseIsFullAndDoesNothing();
        eraseIsFullBeforeTheEndOfAStroke();
        eraseRefuses();
        linesAreRounded();
        meetsAtEnds();
        meetsOfNoneAndOfAll();
        meetsRefuses();
        areas();
        areaRefuses();
        CHECKS.end();
    }

    private static Script on(String sentence) {
        return new Script(CHECKS, sentence);
    }

    private static void strokesAreNumberedFromNought() {
        Script s = on("Promise 5: which comes last in a drawing: its number, from 0 on");
        for (int d = 0; d < 16; d++) {
            s.text("1 0,0 1," + d).due(0, "stroke", d).text("2 0,0 1," + d).due(1, "stroke", d);
        }
        s.written(15, "1 0,0 1,15\n2 0,0 1,15\n").written(0, "1 0,0 1,0\n2 0,0 1,0\n").due(32, "count", 0);
    }

    private static void coloursOfStrokes() {
        Script s = on("Part II: a COLOUR, 1 .. 15");
        s.wrong(0, "0 0,0 1,1", "stroke", 0).wrong(0, "16 0,0 1,1", "stroke", 0).wrong(0, "-1 0,0 1,1", "stroke", 0);
        s.wrong(0, "100 0,0 1,1", "stroke", 0).due(0, "count", 0);
        s.text("1 0,0 1,1").due(0, "stroke", 0).text("15 0,0 1,1").due(1, "stroke", 0);
        s.written(0, "1 0,0 1,1\n15 0,0 1,1\n");
    }

    private static void pointsLieOnThePaper() {
        Script s = on("Part II: 48 columns x, 0 .. 47, and 32 rows y, 0 .. 31");
        s.wrong(2, "1 48,0 1,1", "stroke", 0).wrong(4, "1 0,32 1,1", "stroke", 0).wrong(6, "1 0,0 48,1", "stroke", 0);
        s.wrong(8, "1 0,0 1,32", "stroke", 0).wrong(9, "1 0,0 47,32", "stroke", 0).wrong(2, "1 -1,0 1,1", "stroke", 0);
        s.wrong(4, "1 0,-1 1,1", "stroke", 0).due(0, "count", 0);
        s.text("1 0,0 47,31").due(0, "stroke", 0).text("1 47,0 0,31").due(1, "stroke", 0);
        s.written(0, "1 0,0 47,31\n1 47,0 0,31\n");
    }

    private static void pointsAreTwoToTen() {
        Script s = on("Part II: POINTS, 2 to 10");
        s.wrong(1, "1", "stroke", 0).wrong(5, "1 0,0", "stroke", 0).wrong(6, "1 0,0 ", "stroke", 0);
        s.wrong(41, "1 " + ZIGZAG.substring(0, 39) + "!", "stroke", 0);
        // the eleventh is one too many at its first byte, whatever it is; the blank ahead of it is right
        s.wrong(42, "1 " + ZIGZAG + " 0,0", "stroke", 0).wrong(42, "1 " + ZIGZAG + " 1,0", "stroke", 0);
        s.wrong(42, "1 " + ZIGZAG + " 48,0", "stroke", 0).wrong(42, "1 " + ZIGZAG + " x", "stroke", 0);
        s.wrong(42, "1 " + ZIGZAG + " ", "stroke", 0).wrong(41, "1 " + ZIGZAG + ",", "stroke", 0);
        s.due(0, "count", 0).text("1 0,0 1,0").due(0, "stroke", 0).text("1 " + ZIGZAG).due(1, "stroke", 0);
        s.due(2, "fit", 0, 1, 20).due(2, "fit", 0, 0, 20);
    }

    private static void noPointIsLikeTheOneBefore() {
        Script s = on("Part II: none like the one before (asked when it has been read, at its first byte)");
        s.wrong(6, "1 0,0 0,0", "stroke", 0).wrong(6, "1 5,5 5,5 x", "stroke", 0).wrong(6, "1 5,5 5,5x", "stroke", 0);
        s.wrong(8, "1 5,5 5,50", "stroke", 0).wrong(9, "1 5,0 5,00", "stroke", 0);
        s.wrong(10, "1 5,5 5,6 5,6", "stroke", 0).wrong(8, "1 47,31 47,31 1,1", "stroke", 0);
        s.wrong(8, "1 5,5 5,32", "stroke", 0).wrong(7, "1 5,5 5", "stroke", 0);
        // like one further ahead, or the first one, is right
        s.text("1 0,0 1,0 0,0 1,0").due(0, "stroke", 0).text("1 5,5 5,6").due(1, "stroke", 0);
        s.text("1 5,5 6,5").due(2, "stroke", 0);
    }

    private static void strokesOfNoDrawing() {
        Script s = on("Promise 5: NONE if there is no such drawing, told ahead of WRONG");
        for (int d : new int[] {-1, 16, Integer.MIN_VALUE, Integer.MAX_VALUE}) {
            s.text("1 0,0 1,1").due(-1, "stroke", d).text("x").due(-1, "stroke", d).due(-1, "stroke", d);
        }
        s.due(0, "count", 0).text("1 0,0 1,1").due(0, "stroke", 15).due(1, "count", 0);
    }

    private static void eightStrokes() {
        Script s = on("Promise 5: FULL (if it is not WRONG)");
        StringBuilder all = new StringBuilder();
        for (int k = 0; k < 8; k++) {
            s.text((k + 1) + " 0,0 1,1").due(k, "stroke", 3);
            all.append(k + 1).append(" 0,0 1,1\n");
        }
        s.text("9 0,0 1,1").due(-4, "stroke", 3).wrong(0, "16 0,0 1,1", "stroke", 3);
        s.wrong(9, "9 0,0 1,1x", "stroke", 3);
        s.wrong(6, "9 0,0 0,0", "stroke", 3).text("9 0,0 1,1").due(-1, "stroke", 16).due(8, "count", 0);
        s.written(3, all.toString());
        s.text("9 0,0 1,1").due(0, "stroke", 4).due(7, "take", 3, 0).text("9 0,0 1,1").due(7, "stroke", 3);
        s.text("9 0,0 1,1").due(-4, "stroke", 3);
    }

    private static void takeMakesNumbersLess() {
        Script s = on("Promise 6: a STROKE goes, those behind it have numbers less by one: how many are left");
        for (int k = 0; k < 8; k++) {
            s.text((k + 1) + " " + k + ",0 10," + k).due(k, "stroke", 0);
        }
        s.due(7, "take", 0, 0).due(6, "take", 0, 6).due(5, "take", 0, 2);
        s.written(0, "2 1,0 10,1\n3 2,0 10,2\n5 4,0 10,4\n6 5,0 10,5\n7 6,0 10,6\n");
        s.due(4, "take", 0, 4).due(3, "take", 0, 0).due(2, "take", 0, 0);
        s.due(1, "take", 0, 1).written(0, "5 4,0 10,4\n").due(0, "take", 0, 0).written(0, "").due(-1, "take", 0, 0);
        s.text("9 9,9 8,8").due(0, "stroke", 0).written(0, "9 9,9 8,8\n");
    }

    private static void takeRefuses() {
        Script s = on("Promise 6: NONE if there is none such");
        s.due(-1, "take", 0, 0).text("1 0,0 1,1").due(0, "stroke", 0).text("2 0,0 1,1").due(1, "stroke", 0);
        s.outside(-1, "take", Script.with(0, 0), 0, 15, 0, 1).due(-1, "take", 1, 0).due(-1, "take", 15, 0);
        s.written(0, "1 0,0 1,1\n2 0,0 1,1\n").due(1, "take", 0, 1).due(-1, "take", 0, 1);
    }

    private static void writtenOfNothingAndOfTheMost() {
        Script s = on("Promise 7: the STROKES are written, each with a byte 10 behind it: how many bytes");
        s.written(0, "").written(15, "");
        String longest = "15 10,10 11,11 12,12 13,13 14,14 15,15 16,16 17,17 18,18 19,19";
        for (int k = 0; k < 8; k++) {
            s.text(longest).due(k, "stroke", 15);
            s.due((k + 1) * 63, "written", 15).due(10, "out", k * 63 + 62).due(-1, "out", k * 63 + 63);
        }
        for (int k = 0; k < 504; k += 7) {
            s.due(k % 63 == 62 ? 10 : longest.charAt(k % 63), "out", k);
        }
        s.due('9', "out", 502).due(10, "out", 503).due(-1, "out", 504).due(0, "written", 14).due(-1, "out", 0);
    }

    private static void writtenRefuses() {
        Script s = on("Promise 7: NONE if there is no such drawing");
        s.text("1 0,0 1,1").due(0, "stroke", 0).text("2 0,0 1,1").due(0, "stroke", 15).due(10, "written", 15);
        s.outside(-1, "written", Script.with(0), 0, 15).out("2 0,0 1,1\n").due(10, "written", 0).due('1', "out", 0);
    }

    private static void fitsAtTheBoundsOfTheError() {
        Script s = on("Promise 8: an error 0 .. 20");
        s.text("1 0,0 10,20 20,0").due(0, "stroke", 0).text("1 0,0 10,21 20,0").due(1, "stroke", 0);
        s.due(3, "fit", 0, 0, 0).due(3, "fit", 0, 0, 19).due(2, "fit", 0, 0, 20).due(3, "fit", 0, 1, 20);
        s.due(-1, "fit", 0, 1, 21).due(-1, "fit", 0, 1, -1).written(0, "1 0,0 20,0\n1 0,0 10,21 20,0\n");
        // with 0 those on the straight line alone go
        s.text("1 0,0 10,0 20,0 30,1 40,2 47,2").due(2, "stroke", 0).due(4, "fit", 0, 2, 0).due(2, "take", 0, 0);
        s.written(0, "1 0,0 10,21 20,0\n1 0,0 20,0 40,2 47,2\n");
    }

    private static void fitsOfPointsThatAreJustClose() {
        Script s = on("Part II: CLOSE: C * C is not above e * e * L");
        // C is 40 * 3 and L 40 * 40: just 3 away
        s.text("1 0,10 20,13 40,10").due(0, "stroke", 0).due(3, "fit", 0, 0, 2).due(2, "fit", 0, 0, 3);
        // below the line the same
        s.text("1 0,10 20,7 40,10").due(1, "stroke", 0).due(3, "fit", 0, 1, 2).due(2, "fit", 0, 1, 3);
        // slanted, 3 4 5: C is 4 * 10 - 3 * 0 = 40 over 5: 8 away
        s.text("1 10,10 10,20 14,13").due(2, "stroke", 0).due(3, "fit", 0, 2, 7).due(2, "fit", 0, 2, 8);
        // 47, 31: C is 1 for a POINT next to the line, L 3170
        s.text("1 0,0 3,2 47,31").due(3, "stroke", 0).due(3, "fit", 0, 3, 0).due(2, "fit", 0, 3, 1);
        // one of many is not CLOSE to the long line, so the last one that has all of them CLOSE stays
        s.text("1 0,0 10,1 20,0 30,5 40,0").due(4, "stroke", 0).due(4, "fit", 0, 4, 1);
        s.due(4, "take", 0, 0).due(3, "take", 0, 0).due(2, "take", 0, 0).due(1, "take", 0, 0);
        s.written(0, "1 0,0 20,0 30,5 40,0\n");
    }

    private static void fitsOfPointsThatAreAlike() {
        Script s = on("Part II: the last one in their order stays that is not like it, till the last POINT stays");
        s.text("1 5,5 6,5 5,5").due(0, "stroke", 0).due(3, "fit", 0, 0, 20);
        s.text("2 5,5 6,5 5,5 6,5 5,5").due(1, "stroke", 0).due(3, "fit", 0, 1, 0);
        s.text("3 5,5 9,5").due(2, "stroke", 0).due(2, "fit", 0, 2, 20);
        s.text("4 5,5 9,5 9,9 5,9 5,5").due(3, "stroke", 0).due(5, "fit", 0, 3, 0).due(3, "fit", 0, 3, 20);
        s.text("5 " + ZIGZAG).due(4, "stroke", 0).due(2, "fit", 0, 4, 0);
        s.written(0, "1 5,5 6,5 5,5\n2 5,5 6,5 5,5\n3 5,5 9,5\n4 5,5 5,9 5,5\n5 0,0 1,0\n");
    }

    private static void fitRefuses() {
        Script s = on("Promise 8: NONE if one can't be");
        s.due(-1, "fit", 0, 0, 0).text("1 0,0 10,0 20,0").due(0, "stroke", 0).text("2 0,0 10,0 20,0");
        s.due(0, "stroke", 15);
        s.outside(-1, "fit", Script.with(0, 0, 20), 0, 15, 0, 0, 0, 20).due(-1, "fit", 1, 0, 0);
        s.written(0, "1 0,0 10,0 20,0\n").due(2, "fit", 15, 0, 0);
    }

    private static void erasesAtTheBoundsOfTheRadius() {
        Script s = on("Part II: |its x - x| and |its y - y| not above r; r, 0 .. 10");
        s.text("1 20,10 20,12").due(0, "stroke", 0).due(0, "erase", 0, 21, 11, 0).due(0, "erase", 0, 31, 11, 10);
        s.due(0, "erase", 0, 9, 11, 10).due(0, "erase", 0, 20, 23, 10).due(1, "erase", 0, 20, 22, 10);
        s.text("1 20,11 20,12").due(0, "stroke", 0).due(0, "erase", 0, 20, 0, 10).due(1, "erase", 0, 20, 1, 10);
        s.text("1 20,11 20,12").due(0, "stroke", 0).due(1, "erase", 0, 30, 22, 10);
        s.text("1 20,11 20,12").due(0, "stroke", 0).due(1, "erase", 0, 10, 1, 10);
        s.text("1 20,11 20,12").due(0, "stroke", 0).due(0, "erase", 0, 20, 13, 0).due(1, "erase", 0, 20, 12, 0);
        // at the corners of the paper
        s.text("1 0,0 47,0 47,31 0,31 0,1").due(0, "stroke", 0).due(1, "erase", 0, 0, 0, 0);
        s.due(2, "erase", 0, 47, 31, 0);
        s.written(0, "1 0,31 0,1\n");
    }

    private static void erasesNothingAndAll() {
        Script s = on("Promise 9: how many SEGMENTS went");
        s.due(0, "erase", 0, 0, 0, 10).due(0, "erase", 15, 47, 31, 10);
        s.text("1 " + ZIGZAG).due(0, "stroke", 0).text("2 " + ZIGZAG).due(1, "stroke", 0);
        s.due(0, "erase", 0, 20, 20, 10).due(2, "count", 0).due(18, "erase", 0, 0, 0, 0).due(0, "count", 0);
        // FILLS stay though nothing is left
        s.text("1 10,10 20,10 20,20 10,20 10,10").due(0, "stroke", 1).due(81, "fill", 1, 15, 15, 0, 1);
        s.due(4, "erase", 1, 15, 15, 5).due(1, "count", 1).due(-5, "region", 1, 0);
    }

    private static void erasesInItsPlace() {
        Script s = on("Part II: the longest stretches of its SEGMENTS that are left, in order, in its place, with its COLOUR");
        s.text("1 0,0 5,0").due(0, "stroke", 0);
        s.text("2 0,10 10,10 20,10 30,10 40,10 47,10").due(1, "stroke", 0).text("3 0,20 5,20").due(2, "stroke", 0);
        s.due(1, "erase", 0, 25, 10, 0).written(0, "1 0,0 5,0\n2 0,10 10,10 20,10\n2 30,10 40,10 47,10\n3 0,20 5,20\n");
        s.due(1, "erase", 0, 5, 10, 4).due(1, "erase", 0, 45, 10, 1);
        s.written(0, "1 0,0 5,0\n2 10,10 20,10\n2 30,10 40,10\n3 0,20 5,20\n");
    }

    private static void eraseIsFullAndDoesNothing() {
        Script s = on("Promise 9: FULL, and nothing, if there would be more than 8 STROKES");
        s.text("1 0,0 10,0 20,0 30,0 40,0").due(0, "stroke", 0);
        StringBuilder others = new StringBuilder();
        for (int k = 1; k < 8; k++) {
            s.text((k + 1) + " 0,2" + k + " 5,2" + k).due(k, "stroke", 0);
            others.append(k + 1).append(" 0,2").append(k).append(" 5,2").append(k).append("\n");
        }
        // nine: one SEGMENT from the middle
        s.due(-4, "erase", 0, 15, 0, 0).due(-4, "erase", 0, 25, 4, 4).due(8, "count", 0);
        s.written(0, "1 0,0 10,0 20,0 30,0 40,0\n" + others);
        // eight: a part of it
        s.due(2, "erase", 0, 30, 0, 0).due(8, "count", 0).due(1, "erase", 0, 5, 0, 0).due(8, "count", 0);
        s.written(0, "1 10,0 20,0\n" + others);
    }

    private static void eraseIsFullBeforeTheEndOfAStroke() {
        Script s = on("Promise 9: FULL, and nothing, though what comes behind the ninth STROKE goes");
        s.text("1 0,0 10,0 20,0 30,0").due(0, "stroke", 0);
        for (int k = 1; k < 7; k++) {
            s.text((k + 1) + " 0,2" + k + " 5,2" + k).due(k, "stroke", 0);
        }
        // its last SEGMENT goes with the middle one of the first STROKE, and its first one would be the ninth
        s.text("9 12,9 16,9 16,1").due(7, "stroke", 0).due(-4, "erase", 0, 16, 1, 1).due(8, "count", 0);
        s.due(7, "take", 0, 1).due(2, "erase", 0, 16, 1, 1).due(8, "count", 0);
    }

    private static void eraseRefuses() {
        Script s = on("Promise 9: NONE if one can't be");
        s.text("1 0,0 47,0 47,31 0,31").due(0, "stroke", 0);
        s.outside(-1, "erase", Script.with(0, 0, 0, 10), 0, 15, 0, 47, 0, 31, 0, 10).due(1, "count", 0);
        s.written(0, "1 0,0 47,0 47,31 0,31\n").due(1, "erase", 0, 0, 0, 0).due(1, "count", 0);
    }

    private static void linesAreRounded() {
        Script s = on("Part II: ROUND of k * (bx - ax) / n, a half upwards whichever way the LINE goes");
        s.text("1 10,10 12,11").due(0, "stroke", 0).due(1, "paint", 0, 11, 11).due(0, "paint", 0, 11, 10);
        s.text("2 12,14 10,13").due(1, "stroke", 0).due(2, "paint", 0, 11, 14).due(0, "paint", 0, 11, 13);
        s.text("3 20,10 21,12").due(2, "stroke", 0).due(3, "paint", 0, 21, 11).due(0, "paint", 0, 20, 11);
        s.text("4 25,12 24,10").due(3, "stroke", 0).due(4, "paint", 0, 25, 11).due(0, "paint", 0, 24, 11);
        // 47 by 31: the last PIXEL is the end itself
        s.text("5 0,0 47,31").due(4, "stroke", 0).due(5, "paint", 0, 0, 0).due(5, "paint", 0, 47, 31);
        s.due(5, "paint", 0, 1, 1).due(5, "paint", 0, 46, 30).due(0, "paint", 0, 46, 31).due(5, "paint", 0, 24, 16);
        s.text("6 40,5 41,5").due(5, "stroke", 0).due(6, "paint", 0, 40, 5).due(6, "paint", 0, 41, 5);
        s.due(0, "paint", 0, 42, 5);
    }

    private static void meetsAtEnds() {
        Script s = on("Part II: a point in common (as straight lines between their points, ends included)");
        String[] others = {"1 10,0 20,0", "1 0,0 0,9", "1 5,0 5,9", "1 5,1 5,9", "1 11,0 20,0", "1 3,0 7,0", "1 0,5 10,4",
            "1 10,9 10,0"};
        int[] due = {1, 1, 1, 0, 0, 1, 0, 1};
        for (int k = 0; k < others.length; k++) {
            s.text("1 0,0 10,0").due(0, "stroke", 0).text(others[k]).due(1, "stroke", 0);
            s.due(due[k], "meets", 0, 0, 1).due(due[k], "meets", 0, 1, 0).due(1, "take", 0, 0).due(0, "take", 0, 0);
        }
        // 0,0 47,31 passes between the PIXELS: 3,2 is just at its one side, 44,29 at the other
        s.text("1 0,0 47,31").due(0, "stroke", 0).text("1 3,2 44,29").due(1, "stroke", 0).due(1, "meets", 0, 0, 1);
        s.text("1 3,2 6,4").due(2, "stroke", 0).due(0, "meets", 0, 0, 2).due(1, "meets", 0, 1, 2);
    }

    private static void meetsOfNoneAndOfAll() {
        Script s = on("Promise 10: how many pairs of SEGMENTS");
        s.text("1 " + ZIGZAG).due(0, "stroke", 0).text("1 " + ZIGZAG).due(1, "stroke", 0);
        s.due(81, "meets", 0, 0, 1).text("1 1,0 1,5").due(2, "stroke", 0).due(9, "meets", 0, 0, 2);
        s.text("1 2,0 2,5").due(3, "stroke", 0).due(0, "meets", 0, 0, 3).due(0, "meets", 0, 2, 3);
        s.due(9, "meets", 0, 2, 1);
    }

    private static void meetsRefuses() {
        Script s = on("Promise 10: NONE if there are none such, or they are the same");
        s.due(-1, "meets", 0, 0, 0).due(-1, "meets", 0, 0, 1).text("1 0,0 9,9").due(0, "stroke", 0);
        s.due(-1, "meets", 0, 0, 0).due(-1, "meets", 0, 0, 1).due(-1, "meets", 0, 1, 0).text("1 0,9 9,0");
        s.due(1, "stroke", 0);
        s.outside(-1, "meets", Script.with(0, 0, 1), 0, 15, 0, 1, 0, 1);
        s.due(-1, "meets", 0, 1, 1).due(-1, "meets", 1, 0, 1).due(1, "meets", 0, 0, 1);
    }

    private static void areas() {
        Script s = on("Promise 11: twice the area, back to its first POINT at last");
        s.text("1 0,0 47,31").due(0, "stroke", 0).due(0, "area", 0, 0);
        s.text("1 0,0 47,0 47,31 0,31").due(1, "stroke", 0).due(2914, "area", 0, 1);
        s.text("1 0,0 0,31 47,31 47,0 0,0").due(2, "stroke", 0).due(-2914, "area", 0, 2);
        s.text("1 " + ZIGZAG).due(3, "stroke", 0).due(0, "area", 0, 3);
        s.text("1 46,30 47,30 47,31").due(4, "stroke", 0).due(1, "area", 0, 4);
        s.text("1 46,30 47,31 47,30").due(5, "stroke", 0).due(-1, "area", 0, 5);
    }

    private static void areaRefuses() {
        Script s = on("Promise 11: -1000000 if there is none such");
        s.due(-1000000, "area", 0, 0).text("1 0,0 5,0 5,5").due(0, "stroke", 0);
        s.outside(-1000000, "area", Script.with(0, 0), 0, 15, 0, 0).due(-1000000, "area", 15, 0).due(25, "area", 0, 0);
    }
}
