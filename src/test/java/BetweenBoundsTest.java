/** Promises 21 to 25 and part V of the terms, at their bounds: a test for each sentence that names one. */
public final class BetweenBoundsTest {
    private static final Checks CHECKS = new Checks();
    private static final String BOX = "1 10,10 20,10 20,20 10,20 10,10";

    public static void main(String[] args) {
        marksTellHowMany();
        markRefuses();
        marksThatAreThere();
        fourMarks();
        unmarkOfNoneAndOfAll();
        matchesOfNothing();
        matchesWithItself();
        costsOfEndsAndColours();
        pairsThatAreAsGoodAsNone();
        theLeastRow();
        theLeastRowOfThoseThatAreFree();
        marksWhereBothAreThere();
        marksAtAnyCost();
        matchesOfEight();
        matchRefuses();
        partnersAtFirst();
        partnersOfWhatWasFoundLatest();
        partnerRefuses();
        tweensAtTheEnds();
        tweensAtTheHalf();
        tweensOfOneAndItself();
        tweensLeavePointsOut();
        tweensLeaveStrokesOut();
        tweensOfTheMostPoints();
        tweensOfFills();
        tweensInPlaceOfWhatWasThere();
        tweenRefuses();
        CHECKS.end();
    }

    private static Script on(String sentence) {
        return new Script(CHECKS, sentence);
    }

    private static void marksTellHowMany() {
        Script s = on("Promise 21: a MARK comes, i and j 0 .. 7: how many there are");
        s.due(1, "mark", 0, 7).due(1, "count", 7).due(2, "mark", 7, 0).due(3, "mark", 3, 3).due(4, "mark", 4, 5);
        s.due(4, "count", 7);
    }

    private static void markRefuses() {
        Script s = on("Promise 21: NONE if one can't be");
        s.outside(-1, "mark", Script.with(0, 0), 0, 7, 0, 7).due(0, "count", 7).due(1, "mark", 7, 7);
        // told ahead of STATE and FULL
        s.due(-1, "mark", 7, 8).due(-1, "mark", -1, 7).due(2, "mark", 1, 1).due(3, "mark", 2, 2).due(4, "mark", 3, 3);
        s.due(-1, "mark", 8, 0).due(-1, "mark", 0, -1).due(4, "count", 7);
    }

    private static void marksThatAreThere() {
        Script s = on("Promise 21: STATE if one has this i or this j, told ahead of FULL");
        s.due(1, "mark", 1, 2).due(-3, "mark", 1, 2).due(-3, "mark", 1, 3).due(-3, "mark", 0, 2).due(1, "count", 7);
        // i may be another one's j
        s.due(2, "mark", 2, 1).due(3, "mark", 3, 4).due(4, "mark", 4, 3).due(-3, "mark", 4, 7).due(-3, "mark", 7, 3);
        s.due(-3, "mark", 1, 1).due(-4, "mark", 7, 7).due(4, "count", 7);
    }

    private static void fourMarks() {
        Script s = on("Promise 21: FULL");
        for (int k = 0; k < 4; k++) {
            s.due(k + 1, "mark", k, k);
        }
        s.due(-4, "mark", 4, 4).due(-4, "mark", 7, 6).due(4, "unmark").due(1, "mark", 7, 6);
    }

    private static void unmarkOfNoneAndOfAll() {
        Script s = on("Promise 22: all MARKS go: how many there were");
        s.due(0, "unmark").due(1, "mark", 0, 0).due(1, "unmark").due(0, "unmark").due(0, "count", 7);
        s.due(1, "mark", 0, 0).due(2, "mark", 1, 1).due(3, "mark", 2, 2).due(4, "mark", 3, 3).due(4, "unmark");
        s.due(0, "count", 7);
        s.due(1, "mark", 3, 3);
    }

    private static void matchesOfNothing() {
        Script s = on("Part V: 400 for each STROKE of either that is in none");
        s.due(0, "match", 0, 15).text("1 0,0 1,1").due(0, "stroke", 0).due(400, "match", 0, 15);
        s.due(400, "match", 15, 0);
        for (int k = 1; k < 8; k++) {
            s.text("1 0,0 1,1").due(k, "stroke", 0);
        }
        s.due(3200, "match", 0, 15).due(-1, "partner", 0).due(-1, "partner", 7).due(3200, "match", 15, 0);
        s.due(-1, "partner", 0);
    }

    private static void matchesWithItself() {
        Script s = on("Promise 23: also of one and itself");
        s.due(0, "match", 5, 5).due(-1, "partner", 0);
        for (int k = 0; k < 8; k++) {
            s.text("1 " + k / 2 + ",0 10,10").due(k, "stroke", 5);
        }
        s.due(0, "match", 5, 5);
        for (int k = 0; k < 8; k++) {
            s.due(k, "partner", k);
        }
    }

    private static void costsOfEndsAndColours() {
        Script s = on("Part V: the squared distance of their first POINTS, and that of their last, and 100 for COLOURS");
        s.text("1 10,10 5,5 20,20").due(0, "stroke", 0).text("1 10,10 47,31 20,20").due(0, "stroke", 1);
        s.due(0, "match", 0, 1);
        s.text("2 10,10 20,20").due(0, "stroke", 2).due(100, "match", 0, 2).due(0, "partner", 0);
        s.text("1 13,14 20,20").due(0, "stroke", 3).due(25, "match", 0, 3).text("1 10,10 14,17").due(0, "stroke", 4);
        s.due(45, "match", 0, 4).text("15 9,10 20,19").due(0, "stroke", 5).due(102, "match", 0, 5);
        s.due(102, "match", 5, 0);
        // the first goes with the first, though the ends lie crosswise on each other
        s.text("1 20,20 10,10").due(0, "stroke", 6).due(400, "match", 0, 6).due(0, "partner", 0);
    }

    private static void pairsThatAreAsGoodAsNone() {
        Script s = on("Part V: THE BEST has the least SUM; then the least row of partners (8 for none)");
        // COSTS of 800 and of 801, against 400 and 400 alone
        s.text("1 0,0 0,10").due(0, "stroke", 0).text("1 20,0 20,10").due(0, "stroke", 1).due(800, "match", 0, 1);
        s.due(0, "partner", 0).text("1 0,0 1,10").due(0, "stroke", 2).text("1 20,0 21,11").due(0, "stroke", 3);
        s.due(800, "match", 2, 3).due(-1, "partner", 0).text("1 0,0 47,31").due(0, "stroke", 4).text("1 47,31 0,0");
        s.due(0, "stroke", 5);
        s.due(800, "match", 4, 5).due(-1, "partner", 0);
    }

    private static void theLeastRow() {
        Script s = on("Part V: then the least row of partners of the first drawing's STROKES, in order");
        for (int k = 0; k < 3; k++) {
            s.text("1 5,5 6,6").due(k, "stroke", 0);
        }
        s.text("1 5,5 6,6").due(0, "stroke", 1).due(800, "match", 0, 1).due(0, "partner", 0).due(-1, "partner", 1);
        s.due(-1, "partner", 2);
        s.due(800, "match", 1, 0).due(0, "partner", 0).text("1 5,5 6,6").due(1, "stroke", 1).due(400, "match", 0, 1);
        s.due(0, "partner", 0).due(1, "partner", 1).due(-1, "partner", 2);
        // crosswise and straight cost the same: straight is less
        s.text("1 0,0 0,5").due(0, "stroke", 2).text("1 2,0 2,5").due(1, "stroke", 2);
        s.text("1 1,0 1,5").due(0, "stroke", 3).text("1 1,0 1,5").due(1, "stroke", 3);
        s.due(4, "match", 2, 3).due(0, "partner", 0).due(1, "partner", 1).due(1, "take", 3, 1).text("1 1,0 1,6");
        s.due(1, "stroke", 3);
        s.due(5, "match", 2, 3).due(0, "partner", 0).due(1, "partner", 1);
    }

    private static void theLeastRowOfThoseThatAreFree() {
        Script s = on("Part V: each in one pair at most, where a pair would cost as much as none");
        s.text("1 0,0 9,0").due(0, "stroke", 0).text("1 20,0 9,0").due(1, "stroke", 0).text("1 0,0 9,0");
        s.due(0, "stroke", 1);
        s.due(400, "match", 0, 1).due(0, "partner", 0).due(-1, "partner", 1).due(1, "tween", 0, 1, 2, 3, 2);
        s.due(400, "match", 1, 0).due(0, "partner", 0);
    }

    private static void marksWhereBothAreThere() {
        Script s = on("Part V: MARKS: where both STROKES are there they are a pair");
        s.text("1 0,0 9,0").due(0, "stroke", 0).text("1 0,9 9,9").due(1, "stroke", 0);
        s.text("1 0,0 9,0").due(0, "stroke", 1).text("1 0,9 9,9").due(1, "stroke", 1);
        s.due(1, "mark", 0, 2).due(2, "mark", 2, 0).due(3, "mark", 7, 7).due(0, "match", 0, 1).due(3, "unmark");
        s.due(1, "mark", 0, 1).due(324, "match", 0, 1).due(1, "partner", 0).due(0, "partner", 1);
        // the second drawing has no STROKE 1 any more
        s.due(1, "take", 1, 0).due(400, "match", 0, 1).due(-1, "partner", 0).due(0, "partner", 1);
        s.due(2, "mark", 1, 0).due(400, "match", 0, 1).due(-1, "partner", 0).due(0, "partner", 1);
        s.due(400, "match", 1, 0).due(1, "partner", 0);
    }

    private static void marksAtAnyCost() {
        Script s = on("Part V: MARKS are a pair whatever the COST");
        for (int k = 0; k < 4; k++) {
            s.text("1 0,0 0,1").due(k, "stroke", 0).text("2 47,31 47,30").due(k, "stroke", 1);
            s.due(k + 1, "mark", k, 3 - k);
        }
        int cost = 2 * 47 * 47 + 31 * 31 + 29 * 29 + 100;
        s.due(4 * cost, "match", 0, 1).due(3, "partner", 0).due(2, "partner", 1).due(1, "partner", 2);
        s.due(0, "partner", 3);
        s.text("2 47,31 47,30").due(4, "stroke", 0).due(4 * cost + 400, "match", 0, 1).due(-1, "partner", 4);
        s.due(4, "unmark").due(3 * 400 + 4 * 400, "match", 0, 1).due(-1, "partner", 0).due(0, "partner", 4);
    }

    private static void matchesOfEight() {
        Script s = on("Part V: each in one pair at most, of eight and eight");
        for (int k = 0; k < 8; k++) {
            s.text("1 0," + k + " 40," + k).due(k, "stroke", 0).text("1 0," + (7 - k) + " 40," + (7 - k));
            s.due(k, "stroke", 1);
        }
        s.due(0, "match", 0, 1);
        for (int k = 0; k < 8; k++) {
            s.due(7 - k, "partner", k);
        }
        // each of the one lies best with one and the same of the other, but only one gets it
        for (int k = 0; k < 8; k++) {
            s.text("1 0,0 40," + k).due(k, "stroke", 2).text("1 0,0 40," + (k + 8)).due(k, "stroke", 3);
        }
        s.due(8 * 64, "match", 2, 3).due(-1, "partner", 8);
        for (int k = 0; k < 8; k++) {
            s.same("partner", k);
        }
    }

    private static void matchRefuses() {
        Script s = on("Promise 23: NONE if there are none such");
        s.text("1 0,0 1,1").due(0, "stroke", 0).due(0, "match", 0, 0);
        s.outside(-1, "match", Script.with(0, 0), 0, 15, 0, 15);
        s.due(0, "partner", 0).due(0, "match", 15, 15).due(-1, "partner", 0);
    }

    private static void partnersAtFirst() {
        Script s = on("Promise 24: NONE without one: before any match()");
        s.text("1 0,0 1,1").due(0, "stroke", 0);
        for (int k = -1; k <= 8; k++) {
            s.due(-1, "partner", k);
        }
        s.due(1, "tween", 0, 0, 1, 2, 1).due(-1, "partner", 0);
    }

    private static void partnersOfWhatWasFoundLatest() {
        Script s = on("Promise 24: in what match() found latest");
        s.text("1 0,0 1,1").due(0, "stroke", 0).text("1 40,0 41,1").due(1, "stroke", 0).text("1 40,0 41,1");
        s.due(0, "stroke", 1);
        s.due(400, "match", 0, 1).due(-1, "partner", 0).due(0, "partner", 1).due(400, "match", 1, 0);
        s.due(1, "partner", 0);
        s.due(-1, "partner", 1);
        // it stays as it was found, whatever comes and goes
        s.due(1, "take", 0, 0).due(0, "take", 0, 0).due(1, "mark", 0, 0).due(0, "tween", 0, 0, 1, 2, 2);
        s.due(-1, "match", 0, 16);
        s.due(1, "partner", 0).due(0, "match", 0, 0).due(-1, "partner", 0);
    }

    private static void partnerRefuses() {
        Script s = on("Promise 24: NONE if there is none such");
        s.text("1 0,0 1,1").due(0, "stroke", 0).due(0, "match", 0, 0).outside(-1, "partner", Script.with(0), 0, 0);
        s.due(-1, "partner", 7).due(-1, "partner", 8).due(0, "partner", 0);
    }

    private static void tweensAtTheEnds() {
        Script s = on("Part V: at a 0 the STROKES of d, at a b those of e");
        s.text("1 0,0 10,0").due(0, "stroke", 0).text("2 40,30 47,31 40,30").due(1, "stroke", 0).text("3 0,1 10,1");
        s.due(0, "stroke", 1);
        for (int b : new int[] {1, 2, 24}) {
            s.due(2, "tween", 0, 1, 0, b, 2).written(2, "1 0,0 10,0\n2 40,30 47,31 40,30\n");
            s.due(1, "tween", 0, 1, b, b, 2).written(2, "3 0,1 10,1\n");
        }
        s.due(0, "tween", 0, 5, 1, 1, 2).written(2, "");
    }

    private static void tweensAtTheHalf() {
        Script s = on("Part V: if 2 * a is below b, else");
        s.text("1 0,0 10,0").due(0, "stroke", 0).text("2 40,30 47,31").due(1, "stroke", 0);
        s.text("3 0,1 10,1").due(0, "stroke", 1).text("4 40,0 47,0").due(1, "stroke", 1);
        s.due(2, "tween", 0, 1, 11, 24, 2).written(2, "1 0,0 10,0\n2 40,30 47,31\n");
        s.due(2, "tween", 0, 1, 12, 24, 2).written(2, "3 0,1 10,1\n4 40,0 47,0\n");
        s.due(2, "tween", 0, 1, 1, 3, 2).written(2, "1 0,0 10,0\n2 40,30 47,31\n");
        s.due(2, "tween", 0, 1, 2, 3, 2).written(2, "3 0,1 10,1\n4 40,0 47,0\n").due(2, "tween", 0, 1, 1, 2, 2);
        s.written(2, "3 0,1 10,1\n4 40,0 47,0\n");
    }

    private static void tweensOfOneAndItself() {
        Script s = on("Promise 25: or of one and itself");
        s.text("1 0,0 10,0 10,10").due(0, "stroke", 0).text("2 0,0 10,0").due(1, "stroke", 0);
        s.due(2, "tween", 0, 0, 0, 1, 1).written(1, "1 0,0 10,0 10,10\n2 0,0 10,0\n").due(2, "tween", 0, 0, 7, 24, 1);
        s.written(1, "1 0,0 10,0 10,10\n2 0,0 10,0\n").due(0, "tween", 5, 5, 1, 2, 1).written(1, "");
        // a MARK makes it cross itself
        s.due(1, "mark", 0, 1).due(2, "tween", 0, 0, 1, 2, 1).written(1, "2 0,0 8,0 10,5\n1 0,0 8,0 10,5\n");
    }

    private static void tweensLeavePointsOut() {
        Script s = on("Part V: a POINT like the one before is left out");
        s.text("1 0,0 1,0 0,0 30,0").due(0, "stroke", 0).text("1 0,0 0,1 0,0 30,0").due(0, "stroke", 1);
        s.due(1, "tween", 0, 1, 1, 2, 2).written(2, "1 0,0 1,1 0,0 30,0\n");
        s.text("1 0,0 1,0 2,0 30,0").due(0, "stroke", 3).text("1 1,0 0,0 1,0 30,0").due(0, "stroke", 4);
        // halves of 0 and 1, 1 and 0, 2 and 1: 1, 1, 2
        s.due(1, "tween", 3, 4, 1, 2, 5).written(5, "1 1,0 2,0 30,0\n");
        // at the end of it
        s.text("1 0,0 30,0 31,0").due(0, "stroke", 6).text("1 0,0 31,0 30,0").due(0, "stroke", 7);
        s.due(1, "tween", 6, 7, 1, 2, 8).written(8, "1 0,0 31,0\n");
    }

    private static void tweensLeaveStrokesOut() {
        Script s = on("Part V: and a STROKE of fewer than 2 POINTS");
        s.text("1 0,0 9,0").due(0, "stroke", 0).text("1 30,30 40,30").due(1, "stroke", 0);
        s.text("1 9,0 0,0").due(0, "stroke", 1).text("1 30,31 40,31").due(1, "stroke", 1);
        // 4.5 and 4.5, both to 5: one POINT
        s.due(1, "tween", 0, 1, 1, 2, 2).written(2, "1 30,31 40,31\n").due(2, "tween", 0, 1, 11, 24, 2);
        s.written(2, "1 4,0 5,0\n1 30,30 40,30\n").due(2, "tween", 0, 1, 13, 24, 2);
        s.written(2, "1 5,0 4,0\n1 30,31 40,31\n");
    }

    private static void tweensOfTheMostPoints() {
        Script s = on("Part V: with N the greater number of POINTS: q being DIV(j * (m - 1), N - 1), r the rest");
        s.text("1 0,0 18,0").due(0, "stroke", 0).text("1 0,9 2,9 4,9 6,9 8,9 10,9 12,9 14,9 16,9 18,9");
        s.due(0, "stroke", 1);
        s.due(1, "tween", 0, 1, 1, 3, 2).written(2, "1 0,3 2,3 4,3 6,3 8,3 10,3 12,3 14,3 16,3 18,3\n");
        s.due(1, "tween", 1, 0, 2, 3, 2).written(2, "1 0,3 2,3 4,3 6,3 8,3 10,3 12,3 14,3 16,3 18,3\n");
        // 2 and 2: the ends alone; halves go up
        s.text("1 0,0 47,31").due(0, "stroke", 3).text("1 1,1 46,30").due(0, "stroke", 4);
        s.due(1, "tween", 3, 4, 1, 2, 5).written(5, "1 1,1 47,31\n").due(1, "tween", 3, 4, 1, 24, 5);
        s.written(5, "1 0,0 47,31\n");
        s.due(1, "tween", 3, 4, 23, 24, 5).written(5, "1 1,1 46,30\n");
        // 3 over 10: q is DIV(j * 2, 9), the rest over 9
        s.text("1 0,0 9,0 9,9").due(0, "stroke", 6).text("1 0,0 0,1 0,0 0,1 0,0 0,1 0,0 0,1 0,0 9,9");
        s.due(0, "stroke", 7);
        s.due(1, "tween", 6, 7, 1, 24, 8).written(8, "1 0,0 2,0 4,0 6,0 8,0 9,1 9,3 9,5 9,7 9,9\n");
    }

    private static void tweensOfFills() {
        Script s = on("Part V: its FILLS are those of d, if 2 * a is below b, else those of e");
        s.text(BOX).due(0, "stroke", 0).due(81, "fill", 0, 15, 15, 0, 3).text(BOX).due(0, "stroke", 1);
        s.due(81, "fill", 1, 15, 15, 0, 4).due(81, "fill", 1, 15, 15, 0, 5);
        s.due(1, "tween", 0, 1, 0, 24, 2).due(3, "paint", 2, 15, 15).due(1, "tween", 0, 1, 11, 24, 2);
        s.due(3, "paint", 2, 15, 15);
        s.due(4, "count", 1).due(1, "tween", 0, 1, 12, 24, 2).due(5, "paint", 2, 15, 15).due(5, "count", 1);
        s.due(1, "tween", 0, 1, 24, 24, 2).due(5, "paint", 2, 15, 15).due(81, "region", 2, 1).due(-1, "region", 2, 2);
        // what goes from the third stays in the others
        s.due(1, "unfill", 2, 0).due(0, "take", 2, 0).due(5, "paint", 1, 15, 15).due(81, "region", 1, 1);
        s.due(81, "region", 0, 0);
        s.due(0, "tween", 8, 9, 1, 2, 2).due(3, "count", 1);
    }

    private static void tweensInPlaceOfWhatWasThere() {
        Script s = on("Promise 25: a third drawing becomes THE IN-BETWEEN: how many STROKES it has");
        for (int k = 0; k < 8; k++) {
            s.text("1 0," + k + " 5," + k).due(k, "stroke", 0).text("1 40," + k + " 47," + k).due(k, "stroke", 1);
            s.text("9 7,7 8,8").due(k, "stroke", 2);
        }
        // none are in pairs: eight early, eight late
        s.due(8, "tween", 0, 1, 1, 24, 2).due(24, "count", 0).due(10 * 8, "written", 2).due('5', "out", 6);
        s.due(8, "tween", 0, 1, 23, 24, 2).due(24, "count", 0).due(12 * 8, "written", 2).due('4', "out", 2);
        s.due(0, "tween", 3, 4, 0, 1, 2).due(16, "count", 0).due(7, "take", 0, 0).due(7, "tween", 0, 1, 0, 1, 15);
        s.due(22, "count", 0);
    }

    private static void tweenRefuses() {
        Script s = on("Promise 25: NONE if one can't be, or it is one of the two");
        s.text("1 0,0 10,0").due(0, "stroke", 0).text("2 0,0 10,0").due(0, "stroke", 1).text("3 0,0 10,0");
        s.due(0, "stroke", 2);
        s.outside(-1, "tween", Script.with(0, 1, 1, 24, 2), 0, 15, 0, 15, 0, 24, 1, 24, 0, 15);
        s.due(-1, "tween", 0, 1, 3, 2, 2).due(-1, "tween", 0, 1, 0, 0, 2).due(-1, "tween", 0, 1, 1, 2, 0);
        s.due(-1, "tween", 0, 1, 1, 2, 1).due(-1, "tween", 2, 2, 1, 2, 2).due(-1, "tween", 0, 1, 0, 1, 0);
        s.written(0, "1 0,0 10,0\n").written(1, "2 0,0 10,0\n").written(2, "3 0,0 10,0\n").due(3, "count", 0);
    }
}
