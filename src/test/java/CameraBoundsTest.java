/** Promises 38 to 42 and part VIII of the terms, at their bounds: a test for each sentence that names one. */
public final class CameraBoundsTest {
    private static final Checks CHECKS = new Checks();

    public static void main(String[] args) {
        keysTellHowMany();
        keysInPlaceOfOne();
        zoomNoughtTakesAKey();
        zoomNoughtWithWrongPlaces();
        eightKeys();
        cameraRefuses();
        depthsAtTheBounds();
        depthRefuses();
        seenWithoutKeys();
        seenAtTheBounds();
        seenBetweenKeys();
        seenRounded();
        seenRefuses();
        cutOffOfNone();
        cutOffAtEachSide();
        cutOffByAHalf();
        cutOffByZoom();
        cutOffIsTheFirst();
        cutOffRefuses();
        wigglesAtTheBounds();
        wigglesEveryFrames();
        wigglesOfEveryNought();
        wigglesOfMostNought();
        wigglesAreKeptOnThePaper();
        wigglesOfAllPoints();
        wigglesOfWhatIsShown();
        wigglesMakePointsAlike();
        wiggleRefuses();
        CHECKS.end();
    }

    private static Script on(String sentence) {
        return new Script(CHECKS, sentence);
    }

    private static void keysTellHowMany() {
        Script s = on("Promise 38: THE CAMERA's KEY at a FRAME: how many KEYS");
        s.due(1, "camera", 0, 400, -400, 16).due(2, "camera", 119, -400, 400, 256).due(3, "camera", 60, 0, 0, 64);
        s.due(3, "count", 8);
    }

    private static void keysInPlaceOfOne() {
        Script s = on("Promise 38: in place of one there");
        s.due(1, "camera", 5, 9, 8, 64).due(1, "camera", 5, 1, 2, 64).due(23, "seen", 0, 24, 16, 5, 0);
        s.due(14, "seen", 0, 24, 16, 5, 1);
        s.due(1, "camera", 5, 1, 2, 128).due(22, "seen", 0, 24, 16, 5, 0).due(1, "count", 8);
    }

    private static void zoomNoughtTakesAKey() {
        Script s = on("Promise 38: ZOOM 0: none is there any more");
        s.due(0, "camera", 5, 0, 0, 0).due(1, "camera", 5, 9, 9, 64).due(1, "camera", 4, 0, 0, 0);
        s.due(1, "camera", 6, 0, 0, 0);
        s.due(15, "seen", 0, 24, 16, 5, 0).due(0, "camera", 5, -400, 400, 0).due(24, "seen", 0, 24, 16, 5, 0);
        s.due(0, "camera", 5, 0, 0, 0);
        for (int k = 0; k < 8; k++) {
            s.due(k + 1, "camera", 10 * k, k, -k, 64);
        }
        // never FULL; the others stay
        s.due(8, "camera", 119, 0, 0, 0).due(7, "camera", 30, 0, 0, 0).due(6, "camera", 0, 0, 0, 0);
        s.due(5, "camera", 70, 0, 0, 0);
        s.due(23, "seen", 0, 24, 16, 0, 0).due(20, "seen", 0, 24, 16, 40, 0).due(21, "seen", 0, 24, 16, 30, 0);
        s.due(18, "seen", 0, 24, 16, 119, 0).due(22, "seen", 0, 24, 16, 119, 1).due(5, "count", 8);
    }

    private static void zoomNoughtWithWrongPlaces() {
        Script s = on("Promise 38: X and Y must be right all the same");
        s.due(1, "camera", 5, 9, 9, 64);
        for (int wrong : new int[] {-401, 401, Integer.MIN_VALUE, Integer.MAX_VALUE}) {
            s.due(-1, "camera", 5, wrong, 0, 0).due(-1, "camera", 5, 0, wrong, 0);
        }
        s.due(-1, "camera", -1, 0, 0, 0).due(-1, "camera", 120, 0, 0, 0);
        s.due(1, "count", 8).due(15, "seen", 0, 24, 16, 5, 0).due(0, "camera", 5, 400, -400, 0);
    }

    private static void eightKeys() {
        Script s = on("Promise 38: FULL");
        for (int k = 0; k < 8; k++) {
            s.due(k + 1, "camera", 119 - 17 * k, k, -k, 64);
        }
        s.due(-4, "camera", 1, 0, 0, 64).due(-4, "camera", 118, 0, 0, 16).due(8, "camera", 0, 5, 5, 256);
        s.due(8, "count", 8);
        for (int k = 0; k < 7; k++) {
            s.due(24 - k, "seen", 0, 24, 16, 119 - 17 * k, 0).due(16 + k, "seen", 0, 24, 16, 119 - 17 * k, 1);
        }
        // NONE is told ahead of it
        s.due(-1, "camera", 1, 401, 0, 64).due(-1, "camera", 1, 0, 0, 15).due(7, "camera", 0, 0, 0, 0);
        s.due(8, "camera", 1, 0, 0, 64);
        s.due(-4, "camera", 0, 0, 0, 64);
    }

    private static void cameraRefuses() {
        Script s = on("Promise 38: NONE if one can't be");
        s.outside(-1, "camera", Script.with(0, 0, 0, 64), 0, 119, -400, 400, -400, 400, 16, 256);
        s.due(-1, "camera", 0, 0, 0, 1).due(-1, "camera", 0, 0, 0, -1).due(-1, "camera", 0, 0, 0, -64);
        s.due(0, "count", 8);
    }

    private static void depthsAtTheBounds() {
        Script s = on("Promise 39: a LAYER's DEPTH: what it was");
        for (int l = 0; l < 4; l++) {
            s.due(64, "depth", l, 16).due(16, "depth", l, 1024).due(1024, "depth", l, 100 + l);
        }
        for (int l = 0; l < 4; l++) {
            s.due(100 + l, "depth", l, 64);
        }
    }

    private static void depthRefuses() {
        Script s = on("Promise 39: NONE if one can't be");
        s.outside(-1, "depth", Script.with(0, 64), 0, 3, 16, 1024).due(-1, "depth", 0, 0);
        for (int l = 0; l < 4; l++) {
            s.due(64, "depth", l, 64);
        }
    }

    private static void seenWithoutKeys() {
        Script s = on("Part VIII: 0, 0, 64 without KEYS");
        for (int depth : new int[] {16, 64, 1024}) {
            s.same("depth", 2, depth);
            s.due(-400, "seen", 2, -400, 400, 0, 0).due(400, "seen", 2, -400, 400, 0, 1);
            s.due(24, "seen", 2, 24, 16, 119, 0);
        }
        s.due(1, "camera", 7, 5, 5, 128).due(0, "camera", 7, 5, 5, 0).due(400, "seen", 2, 400, 0, 7, 0);
    }

    private static void seenAtTheBounds() {
        Script s = on("Promise 40: where a place x, y, -400 .. 400, is SEEN, at the bounds of X, Y, ZOOM and DEPTH");
        int[] places = {-400, 400};
        s.due(1, "camera", 0, 400, -400, 256).due(2, "camera", 1, -400, 400, 16).due(3, "camera", 2, 400, -400, 16);
        s.due(64, "depth", 0, 16).due(64, "depth", 1, 1024);
        // at 0 in layer 0: ((-400 - 24) * 16 - 64 * 400) * 256 / 1024 = -8096
        s.due(24 - 8096, "seen", 0, -400, 0, 0, 0).due(16 + 7936, "seen", 0, 0, 400, 0, 1);
        for (int x : places) {
            for (int y : places) {
                for (int f = 0; f < 3; f++) {
                    for (int l = 0; l < 2; l++) {
                        s.same("seen", l, x, y, f, 0);
                        s.same("seen", l, x, y, f, 1);
                    }
                }
            }
        }
    }

    private static void seenBetweenKeys() {
        Script s = on("Part VIII: at a FRAME each of these three as an ANGLE by its KEYS");
        s.due(1, "camera", 10, 10, -10, 64).due(2, "camera", 14, 20, -16, 66).due(14, "seen", 0, 24, 16, 0, 0);
        s.due(26, "seen", 0, 24, 16, 0, 1).due(3, "seen", 0, 24, 16, 119, 0);
        // at 12: X 15, Y -13, ZOOM 65; at 11: X 12.5 to 13, Y -1.5 to -1, ZOOM 64.5 to 65
        s.due(24 - 15, "seen", 0, 24, 16, 12, 0).due(16 + 13, "seen", 0, 24, 16, 12, 1);
        s.due(24 - 13, "seen", 0, 24, 16, 11, 0);
        s.due(16 + 11, "seen", 0, 24, 16, 11, 1);
    }

    private static void seenRounded() {
        Script s = on("Part VIII: ROUND, a half upwards");
        // ZOOM 96: 1.5 times
        s.due(1, "camera", 0, 0, 0, 96).due(26, "seen", 0, 25, 16, 0, 0).due(23, "seen", 0, 23, 16, 0, 0);
        s.due(27, "seen", 0, 26, 16, 0, 0);
        s.due(18, "seen", 0, 24, 17, 0, 1).due(15, "seen", 0, 24, 15, 0, 1).due(13, "seen", 0, 24, 14, 0, 1);
    }

    private static void seenRefuses() {
        Script s = on("Promise 40: -1000000 if one can't be");
        s.outside(-1000000, "seen", Script.with(0, 0, 0, 0, 0), 0, 3, -400, 400, -400, 400, 0, 119, 0, 1);
        s.outside(-1000000, "seen", Script.with(0, 0, 0, 0, 1), 0, 3, -400, 400, -400, 400, 0, 119, 0, 1);
        s.due(400, "seen", 3, 400, -400, 119, 0).due(-400, "seen", 3, 400, -400, 119, 1);
    }

    private static void cutOffOfNone() {
        Script s = on("Promise 41: NONE if none is");
        s.due(-1, "cutOff", 0, 0, 119).due(-1, "cutOff", 3, 0, 0).due(1, "camera", 60, 0, 0, 256);
        s.due(-1, "cutOff", 0, 0, 119);
        s.due(1, "camera", 60, 1, 0, 64).due(0, "cutOff", 0, 0, 119).due(2, "camera", 59, 0, 0, 64);
        s.due(-1, "cutOff", 0, 0, 59);
        s.due(60, "cutOff", 0, 0, 119);
    }

    private static void cutOffAtEachSide() {
        Script s = on("Part VIII: the place at 0, 0 of THE SCREEN, or that at 47, 31, is not on the paper");
        int[][] ways = {{1, 0}, {-1, 0}, {0, 1}, {0, -1}};
        for (int[] way : ways) {
            s.due(1, "camera", 0, way[0], way[1], 64).due(0, "cutOff", 0, 0, 119).due(1, "camera", 0, 0, 0, 64);
            s.due(-1, "cutOff", 0, 0, 119);
        }
        // nearer by a quarter the field is smaller: places 5 .. 42 and 3 .. 28 are there
        s.due(1, "camera", 0, 5, 3, 80).due(-1, "cutOff", 0, 0, 0).due(1, "camera", 0, 6, 0, 80);
        s.due(0, "cutOff", 0, 0, 0);
        s.due(1, "camera", 0, -5, -3, 80).due(-1, "cutOff", 0, 0, 0).due(1, "camera", 0, -6, 0, 80);
        s.due(0, "cutOff", 0, 0, 0);
        s.due(1, "camera", 0, 0, 4, 80).due(0, "cutOff", 0, 0, 0).due(1, "camera", 0, 0, -4, 80);
        s.due(0, "cutOff", 0, 0, 0);
    }

    private static void cutOffByAHalf() {
        Script s = on("Part VIII: 24 + ROUND of ((x - 24) * 64 * DEPTH + 64 * X * ZOOM) / (ZOOM * DEPTH), a half upwards");
        s.due(64, "depth", 0, 128).due(1, "camera", 0, -1, 0, 64).due(-1, "cutOff", 0, 0, 0);
        s.due(1, "camera", 0, 1, 0, 64);
        s.due(0, "cutOff", 0, 0, 0).due(1, "camera", 0, -2, 0, 64).due(0, "cutOff", 0, 0, 0);
        s.due(1, "camera", 0, 0, -1, 64);
        s.due(-1, "cutOff", 0, 0, 0).due(1, "camera", 0, 0, 1, 64).due(0, "cutOff", 0, 0, 0).due(128, "depth", 0, 129);
        s.due(-1, "cutOff", 0, 0, 0);
    }

    private static void cutOffByZoom() {
        Script s = on("Part VIII: CUT OFF by a ZOOM");
        // 24 * 64 / 63 is 24.38, 24 * 64 / 62 is 24.77
        s.due(1, "camera", 0, 0, 0, 63).due(-1, "cutOff", 0, 0, 119).due(1, "camera", 0, 0, 0, 62);
        s.due(0, "cutOff", 0, 0, 119);
        s.due(1, "camera", 0, 0, 0, 16).due(0, "cutOff", 0, 0, 119).due(1, "camera", 0, 0, 0, 256);
        s.due(-1, "cutOff", 0, 0, 119);
        // at 47, 31 lie 24 + ROUND of 5.75 + X, 16 + ROUND of 3.75 + Y
        s.due(1, "camera", 0, 17, 11, 256).due(-1, "cutOff", 0, 0, 119).due(1, "camera", 0, 18, 11, 256);
        s.due(0, "cutOff", 0, 0, 119);
        s.due(1, "camera", 0, 17, 12, 256).due(0, "cutOff", 0, 0, 119);
    }

    private static void cutOffIsTheFirst() {
        Script s = on("Promise 41: the first FRAME from one to another one");
        s.due(1, "camera", 10, 0, 0, 64).due(2, "camera", 20, 10, 0, 64).due(3, "camera", 30, 0, 0, 64);
        s.due(11, "cutOff", 0, 0, 119).due(11, "cutOff", 0, 11, 11).due(-1, "cutOff", 0, 0, 10);
        s.due(15, "cutOff", 0, 15, 119);
        s.due(29, "cutOff", 0, 29, 119).due(-1, "cutOff", 0, 30, 119).due(-1, "cutOff", 0, 119, 119);
        s.due(11, "cutOff", 0, 10, 11);
    }

    private static void cutOffRefuses() {
        Script s = on("Promise 41: NONE if there are none such");
        s.due(1, "camera", 0, 400, 0, 64).outside(-1, "cutOff", Script.with(0, 0, 119), 0, 3, 0, 119, 0, 119);
        s.due(-1, "cutOff", 0, 1, 0).due(-1, "cutOff", 0, 119, 0).due(0, "cutOff", 0, 0, 0);
        s.due(119, "cutOff", 3, 119, 119);
    }

    /** Node 0 shows layer 0 with drawing 0 in all FRAMES. */
    private static Script shows(String sentence, String... strokes) {
        Script s = on(sentence);
        for (int k = 0; k < strokes.length; k++) {
            s.text(strokes[k]).due(k, "stroke", 0);
        }
        return s.text("0*99 0*21").due(120, "sheet", 0).text("layer 0 0").due(0, "node");
    }

    private static void wigglesAtTheBounds() {
        Script s = shows("Promise 42: EVERY 1 .. 24, MOST 0 .. 3, any SEED", "1 10,10 14,10", "2 30,20 34,24 38,20");
        for (int seed : new int[] {0, -1, Integer.MIN_VALUE, Integer.MAX_VALUE}) {
            for (int every : new int[] {1, 24}) {
                s.due(1, "wiggle", 0, seed, every, 3).due(1, "wiggle", 0, seed, every, 1);
                for (int f : new int[] {0, 1, 23, 24, 118, 119}) {
                    s.same("drawn", 0, f);
                    s.same("sample", 0, f, 10, 10);
                    s.same("sample", 0, f, 30, 20);
                    s.same("sample", 0, f, 31, 21);
                }
            }
        }
    }

    private static void wigglesEveryFrames() {
        Script s = shows("Part VIII: DIV(f, EVERY)", "1 10,10 40,25");
        s.due(1, "wiggle", 0, 3, 24, 3);
        for (int x = 6; x < 20; x++) {
            int there = s.same("sample", 0, 0, x, 10);
            s.due(there, "sample", 0, 23, x, 10).due(there, "sample", 0, 1, x, 10);
        }
        s.due(1, "wiggle", 0, 3, 1, 3);
        int others = 0;
        for (int f = 1; f < 40; f++) {
            others += s.same("flicker", 0, f) > 0 ? 1 : 0;
        }
        CHECKS.due("most FRAMES differ", 1, others > 30 ? 1 : 0);
    }

    private static void wigglesOfEveryNought() {
        Script s = shows("Promise 42: EVERY 0: none any more; SEED and MOST do not matter then", "1 10,10 20,10");
        s.due(1, "wiggle", 0, 3, 1, 3);
        int moved = 0;
        for (int f = 0; f < 20; f++) {
            moved += s.same("sample", 0, f, 10, 10) < 0 ? 1 : 0;
        }
        CHECKS.due("it moved", 1, moved > 0 ? 1 : 0);
        for (int most = 0; most <= 3; most++) {
            s.due(1, "wiggle", 0, most - 2, 0, most);
            for (int f = 0; f < 20; f++) {
                s.due(1118481, "sample", 0, f, 10, 10).due(11, "drawn", 0, f);
            }
        }
    }

    private static void wigglesOfMostNought() {
        Script s = shows("Part VIII: mod (2 * MOST + 1), less MOST: at MOST 0 nothing moves", "1 0,0 20,0", "2 47,31 40,31");
        s.due(1, "wiggle", 0, 77, 1, 0);
        for (int f = 0; f < 30; f++) {
            s.due(29, "drawn", 0, f).due(1118481, "sample", 0, f, 0, 0).due(2 * 1118481, "sample", 0, f, 47, 31);
        }
    }

    private static void wigglesAreKeptOnThePaper() {
        Script s = shows("Part VIII: KEPT(x + its a, 47), KEPT(y + its b, 31)", "1 0,0 47,31", "2 47,0 0,31", "3 0,16 47,16");
        s.due(1, "wiggle", 0, 5, 1, 3);
        for (int f = 0; f < 60; f++) {
            s.same("drawn", 0, f);
            s.same("sample", 0, f, 0, 0);
            s.same("sample", 0, f, 47, 31);
            s.same("sample", 0, f, 47, 0);
            s.same("sample", 0, f, 0, 31);
        }
    }

    private static void wigglesOfAllPoints() {
        String[] strokes = new String[8];
        for (int k = 0; k < 8; k++) {
            StringBuilder points = new StringBuilder().append(k + 1);
            for (int j = 0; j < 10; j++) {
                points.append(' ').append(5 * j + 1).append(',').append(4 * k + j % 2 * 2);
            }
            strokes[k] = points.toString();
        }
        Script s = shows("Part VIII: POINT j of STROKE i, ten of eight", strokes);
        s.due(1, "wiggle", 0, -7, 1, 3);
        for (int f = 0; f < 120; f += 9) {
            s.same("drawn", 0, f);
            for (int k = 0; k < 8; k++) {
                s.same("sample", 0, f, 46, 4 * k + 2);
            }
        }
        for (int k = 0; k < 8; k++) {
            s.due(k + 1, "paint", 0, 46, 4 * k + 2);
        }
    }

    private static void wigglesOfWhatIsShown() {
        Script s = shows("Promise 42: WIGGLE of a LAYER, not of a drawing or of another LAYER", "1 10,10 20,10");
        s.text("0*9").due(9, "sheet", 1).text("layer 1 0").due(1, "node").due(1, "wiggle", 0, 3, 1, 3);
        for (int f = 0; f < 9; f++) {
            s.due(11, "drawn", 1, f).due(1118481, "sample", 1, f, 10, 10);
        }
        s.due(1, "paint", 0, 10, 10).due(1, "paint", 0, 20, 10).written(0, "1 10,10 20,10\n").due(0, "drawn", 1, 9);
        // where nothing is SHOWN there is nothing to move
        s.due(1, "wiggle", 1, 3, 1, 3).due(0, "drawn", 1, 9).due(0, "drawn", 1, 119);
    }

    private static void wigglesMakePointsAlike() {
        Script s = shows("Part VIII: POINTS alike lie on one PIXEL; ENDS, CLOSINGS, FILLS go by these POINTS", "1 10,10 11,10",
            "2 20,10 30,10 30,20 20,20 20,13");
        s.due(81, "fill", 0, 25, 15, 4, 3).due(1, "wiggle", 0, 1, 1, 1);
        int single = 0;
        int filled = 0;
        for (int f = 0; f < 120; f++) {
            int ink = s.same("drawn", 0, f);
            single += s.same("sample", 0, f, 10, 10) > 0 && s.same("sample", 0, f, 11, 10) < 0 ? 1 : 0;
            filled += ink > 60 ? 1 : 0;
            s.same("sample", 0, f, 25, 15);
        }
        CHECKS.due("some on one side", 1, single > 0 ? 1 : 0);
        CHECKS.due("some shut, some open", 1, filled > 0 && filled < 120 ? 1 : 0);
    }

    private static void wiggleRefuses() {
        Script s = shows("Promise 42: NONE if one can't be; MOST must be 0 .. 3", "1 10,10 20,10");
        int[] right = {0, 7, 1, 3};
        for (int layer : new int[] {-1, 4, Integer.MIN_VALUE, Integer.MAX_VALUE}) {
            s.due(-1, "wiggle", layer, right[1], right[2], right[3]).due(-1, "wiggle", layer, 0, 0, 0);
        }
        for (int every : new int[] {-1, 25, Integer.MIN_VALUE, Integer.MAX_VALUE}) {
            s.due(-1, "wiggle", 0, right[1], every, right[3]);
        }
        for (int most : new int[] {-1, 4, Integer.MIN_VALUE, Integer.MAX_VALUE}) {
            s.due(-1, "wiggle", 0, right[1], right[2], most).due(-1, "wiggle", 0, right[1], 0, most);
        }
        for (int f = 0; f < 30; f++) {
            s.due(11, "drawn", 0, f).due(1118481, "sample", 0, f, 10, 10);
        }
        // a WIGGLE that is there stays
        s.due(1, "wiggle", 0, 3, 1, 3);
        int before = s.same("flicker", 0, 1);
        s.due(-1, "wiggle", 0, 9, 0, 4).due(-1, "wiggle", 0, 9, 25, 0).due(before, "flicker", 0, 1);
    }
}
