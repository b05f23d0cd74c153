/** Promises 43 to 46 and part IX of the terms, at their bounds: a test for each sentence that names one. */
public final class NodeBoundsTest {
    private static final Checks CHECKS = new Checks();

    public static void main(String[] args) {
        nodesAreNumberedFromNought();
        nodesTellOfLessNumbers();
        tenNodes();
        papersAtTheBounds();
        layersAtTheBounds();
        shiftsAtTheBounds();
        fadesAtTheBounds();
        sparksAtTheBounds();
        nothingMoreIsTold();
        wrongNodesChangeNothing();
        clearOfNoneAndOfAll();
        layersWithoutADrawing();
        layersOffThePaper();
        layersByPalettesAsTheyAre();
        oversOfClear();
        shiftsOffTheScreen();
        mattesOfClear();
        fadesAheadAndBehind();
        fadesAtTheHalf();
        fadesAreRounded();
        blursAtTheSides();
        blursOfClear();
        sparksOfTwentyFourFrames();
        sparksOneAfterTheOther();
        sparksOffTheScreen();
        sparksBySeedsThatWrap();
        sampleRefuses();
        drawnOfNoneAndOfAll();
        drawnRefuses();
        nodesOnNodes();
        CHECKS.end();
    }

    private static Script on(String sentence) {
        return new Script(CHECKS, sentence);
    }

    /** Node 0: a square of 25 PIXELS at 10,10 .. 14,14, INK 1118481 around 2236962; node 1: paper 200. */
    private static Script square(String sentence) {
        Script s = on(sentence).text("1 10,10 14,10 14,14 10,14 10,10").due(0, "stroke", 0);
        s.due(9, "fill", 0, 12, 12, 0, 2);
        s.text("0*99 0*21").due(120, "sheet", 0).text("layer 0 0").due(0, "node").text("paper 200").due(1, "node");
        return s;
    }

    private static void nodesAreNumberedFromNought() {
        Script s = on("Promise 43: THE TAPE is a NODE: its number");
        String[] texts = {"paper 0", "layer 0 0", "over 0 1", "shift 2 1 1", "matte 3 0", "fade 0 1 0 1", "blur 5", "sparks 0 0 0 1 0"};
        for (int k = 0; k < texts.length; k++) {
            s.text(texts[k]).due(k, "node").due(k + 1, "count", 3);
        }
    }

    private static void nodesTellOfLessNumbers() {
        Script s = on("Part IX: A, B are nodes with a less number");
        s.wrong(5, "over 0 0", "node").wrong(6, "shift 0 1 1", "node").wrong(6, "matte 0 0", "node");
        s.wrong(5, "fade 0 0 0 1", "node");
        s.wrong(5, "blur 0", "node").text("paper 1").due(0, "node").wrong(5, "over 1 0", "node");
        s.wrong(7, "over 0 1", "node");
        s.wrong(6, "shift 1 1 1", "node").wrong(6, "matte 1 0", "node").wrong(8, "matte 0 1", "node");
        s.wrong(5, "fade 1 0 0 1", "node");
        s.wrong(7, "fade 0 1 0 1", "node").wrong(5, "blur 1", "node").wrong(5, "blur -1", "node").text("blur 0");
        s.due(1, "node");
        s.text("over 1 1").due(2, "node").wrong(5, "over 3 0", "node").wrong(5, "blur 10", "node").due(3, "count", 3);
        // those that went are there no more
        s.due(3, "clear").wrong(5, "blur 0", "node");
    }

    private static void tenNodes() {
        Script s = on("Promise 43: FULL (if it is not WRONG)");
        for (int k = 0; k < 10; k++) {
            s.text("paper " + k).due(k, "node");
        }
        s.text("paper 1").due(-4, "node").text("blur 9").due(-4, "node").text("over 9 9").due(-4, "node");
        s.due(10, "count", 3);
        s.wrong(5, "blur 10", "node").wrong(5, "paper", "node").wrong(0, "x", "node").wrong(0, "", "node");
        s.wrong(6, "paper 16777216", "node");
        for (int k = 0; k < 10; k++) {
            s.due(k, "sample", k, 0, 0, 0);
        }
        s.due(10, "clear").text("paper 77").due(0, "node").due(77, "sample", 0, 0, 0, 0);
    }

    private static void papersAtTheBounds() {
        Script s = on("Part IX: paper N (0 .. 16777215): N everywhere");
        s.text("paper 0").due(0, "node").text("paper 16777215").due(1, "node").wrong(6, "paper 16777216", "node");
        s.wrong(6, "paper -1", "node").wrong(6, "paper 999999999", "node");
        for (int n = 0; n < 2; n++) {
            s.due(n * 16777215, "sample", n, 0, 0, 0).due(n * 16777215, "sample", n, 119, 47, 31);
            s.due(1536, "drawn", n, 60);
        }
    }

    private static void layersAtTheBounds() {
        Script s = on("Part IX: layer L P: a LAYER 0 .. 3, a PALETTE 0 .. 3");
        s.wrong(6, "layer 4 0", "node").wrong(8, "layer 0 4", "node").wrong(6, "layer -1 0", "node");
        s.wrong(8, "layer 3 -1", "node");
        s.text("layer 0 3").due(0, "node").text("layer 3 0").due(1, "node").text("3 0,0 9,0").due(0, "stroke", 15);
        s.text("15").due(1, "sheet", 0).due(3 * 1118481, "colour", 3, 3, 8).due(10, "drawn", 0, 0);
        s.due(8, "sample", 0, 0, 9, 0);
        s.due(0, "drawn", 1, 0).text("15").due(1, "sheet", 3).due(3 * 1118481, "sample", 1, 0, 9, 0);
    }

    private static void shiftsAtTheBounds() {
        Script s = on("Part IX: shift A X Y (INTS -60 .. 60)");
        s.text("paper 5").due(0, "node").wrong(8, "shift 0 61 0", "node").wrong(8, "shift 0 -61 0", "node");
        s.wrong(10, "shift 0 0 61", "node").wrong(10, "shift 0 0 -61", "node").wrong(11, "shift 0 60 61", "node");
        s.text("shift 0 60 60").due(1, "node").text("shift 0 -60 -60").due(2, "node").text("shift 0 -47 31");
        s.due(3, "node");
        s.due(0, "drawn", 1, 0).due(0, "drawn", 2, 0).due(1, "drawn", 3, 0).due(5, "sample", 3, 0, 0, 31);
    }

    private static void fadesAtTheBounds() {
        Script s = on("Part IX: fade A B F G (FRAMES, F below G, else G is out of its range)");
        s.text("paper 5").due(0, "node").wrong(9, "fade 0 0 120 119", "node").wrong(11, "fade 0 0 0 120", "node");
        s.wrong(11, "fade 0 0 0 0", "node").wrong(11, "fade 0 0 5 5", "node").wrong(11, "fade 0 0 5 4", "node");
        s.wrong(13, "fade 0 0 119 119", "node").wrong(13, "fade 0 0 119 120", "node").wrong(9, "fade 0 0 -1 5", "node");
        s.wrong(13, "fade 0 0 118 118", "node").text("fade 0 0 118 119").due(1, "node").text("fade 0 0 0 119");
        s.due(2, "node");
        s.text("fade 0 0 0 1").due(3, "node").due(5, "sample", 3, 1, 0, 0);
    }

    private static void sparksAtTheBounds() {
        Script s = on("Part IX: sparks S X Y N C (S INT -99999 .. 99999; X 0 .. 47, Y 0 .. 31; N 1 .. 20; C 0 .. 16777215)");
        s.wrong(7, "sparks 100000 0 0 1 0", "node").wrong(7, "sparks -100000 0 0 1 0", "node");
        s.wrong(9, "sparks 0 48 0 1 0", "node");
        s.wrong(11, "sparks 0 0 32 1 0", "node").wrong(13, "sparks 0 0 0 0 0", "node");
        s.wrong(13, "sparks 0 0 0 21 0", "node");
        s.wrong(15, "sparks 0 0 0 1 16777216", "node").wrong(9, "sparks 0 -1 0 1 0", "node");
        s.wrong(11, "sparks 0 0 -1 1 0", "node");
        s.wrong(13, "sparks 0 0 0 -1 0", "node").wrong(15, "sparks 0 0 0 1 -1", "node").due(0, "count", 3);
        s.text("sparks -99999 47 31 20 16777215").due(0, "node").text("sparks 99999 0 0 1 0").due(1, "node");
        s.due(16777215, "sample", 0, 0, 47, 31).due(0, "sample", 1, 0, 0, 0).due(1, "drawn", 0, 0);
        s.due(1, "drawn", 1, 0);
    }

    private static void nothingMoreIsTold() {
        Script s = on("Part IX: a WORD and what it tells, a blank ahead of each of these");
        s.text("paper 1").due(0, "node");
        String[] texts = {"paper 1", "layer 0 0", "over 0 0", "shift 0 1 1", "matte 0 0", "fade 0 0 0 1", "blur 0", "sparks 0 0 0 1 0"};
        for (String text : texts) {
            int length = text.length();
            s.wrong(length, text + " ", "node").wrong(length, text + " 0", "node").wrong(length, text + "x", "node");
            // one thing less, and two blanks
            int last = text.lastIndexOf(' ');
            s.wrong(last, text.substring(0, last), "node");
            s.wrong(last + 1, text.substring(0, last) + " " + text.substring(last), "node");
        }
        s.due(1, "count", 3);
    }

    private static void wrongNodesChangeNothing() {
        Script s = on("Promise 43: WRONG: nothing comes");
        s.text("paper 1").due(0, "node").wrong(7, "over 0 1", "node").wrong(14, "sparks 5 5 5 5", "node");
        s.wrong(9, "paper 123x", "node");
        s.due(1, "count", 3).due(-1, "sample", 1, 0, 0, 0).text("blur 0").due(1, "node").due(1, "sample", 1, 0, 3, 3);
    }

    private static void clearOfNoneAndOfAll() {
        Script s = on("Promise 44: all NODES go: how many there were");
        s.due(0, "clear").text("paper 1").due(0, "node").due(1, "clear").due(0, "clear").due(0, "count", 3);
        s.due(-1, "drawn", 0, 0);
        for (int k = 0; k < 10; k++) {
            s.text("paper 1").due(k, "node");
        }
        s.due(10, "clear").due(0, "count", 3).due(-1, "sample", 0, 0, 0, 0).due(-1, "sample", 9, 0, 0, 0);
        s.text("paper 2").due(0, "node");
        s.due(2, "sample", 0, 0, 0, 0).due(-1, "sample", 1, 0, 0, 0);
    }

    private static void layersWithoutADrawing() {
        Script s = on("Part IX: CLEAR for PAINT 0, without a drawing");
        s.text("1 0,0 9,0").due(0, "stroke", 0).text("layer 0 0").due(0, "node").due(0, "drawn", 0, 0).text("- 0 - 1");
        s.due(4, "sheet", 0);
        s.due(0, "drawn", 0, 0).due(10, "drawn", 0, 1).due(0, "drawn", 0, 2).due(0, "drawn", 0, 3);
        s.due(0, "drawn", 0, 4);
        s.due(0, "drawn", 0, 119).due(-1, "sample", 0, 0, 0, 0).due(-1, "sample", 0, 1, 0, 1);
        s.due(1118481, "sample", 0, 1, 9, 0);
        s.due(-1, "sample", 0, 1, 10, 0);
    }

    private static void layersOffThePaper() {
        Script s = on("Part IX: CLEAR off the paper");
        s.text("1 0,0 47,0 47,31 0,31 0,0").due(0, "stroke", 0).due(1380, "fill", 0, 5, 5, 0, 2).text("0");
        s.due(1, "sheet", 0);
        s.text("layer 0 0").due(0, "node").due(1536, "drawn", 0, 0);
        int[][] ways = {{1, 0}, {-1, 0}, {0, 1}, {0, -1}};
        int[] due = {47 * 32, 47 * 32, 48 * 31, 48 * 31};
        for (int k = 0; k < 4; k++) {
            s.due(1, "camera", 0, ways[k][0], ways[k][1], 64).due(due[k], "drawn", 0, 0);
        }
        s.due(1, "camera", 0, 1, 0, 64).due(-1, "sample", 0, 0, 47, 5).due(1118481, "sample", 0, 0, 46, 5);
        s.due(2236962, "sample", 0, 0, 0, 5);
        s.due(1, "camera", 0, 47, 31, 64).due(1, "drawn", 0, 0).due(1118481, "sample", 0, 0, 0, 0);
        s.due(1, "camera", 0, 48, 0, 64);
        s.due(0, "drawn", 0, 0).due(1, "camera", 0, 0, 0, 16).due(12 * 8, "drawn", 0, 0).due(1, "camera", 0, 0, 0, 256);
        s.due(1536, "drawn", 0, 0).due(2236962, "sample", 0, 0, 0, 0);
    }

    private static void layersByPalettesAsTheyAre() {
        Script s = square("Part IX: by PALETTE P, as all are when it is asked");
        s.due(1118481, "sample", 0, 0, 10, 10).due(1118481, "colour", 0, 1, 0).due(0, "sample", 0, 0, 10, 10);
        s.due(1118481, "colour", 1, 1, 7).due(0, "sample", 0, 0, 10, 10).due(25, "drawn", 0, 0);
        s.due(0, "colour", 0, 1, 16777215);
        s.due(16777215, "sample", 0, 0, 10, 10).due(0, "take", 0, 0).due(0, "drawn", 0, 0);
    }

    private static void oversOfClear() {
        Script s = square("Part IX: over A B: A's, or B's where that is CLEAR");
        s.text("over 0 1").due(2, "node").text("over 1 0").due(3, "node").text("layer 3 0").due(4, "node");
        s.text("over 4 0").due(5, "node");
        s.text("over 4 4").due(6, "node").due(1118481, "sample", 2, 0, 10, 10).due(200, "sample", 2, 0, 9, 10);
        s.due(1536, "drawn", 2, 0);
        s.due(200, "sample", 3, 0, 10, 10).due(25, "drawn", 5, 0).due(0, "drawn", 6, 0).due(-1, "sample", 5, 0, 0, 0);
        // black is not CLEAR
        s.text("paper 0").due(7, "node").text("over 7 1").due(8, "node").due(0, "sample", 8, 0, 0, 0);
    }

    private static void shiftsOffTheScreen() {
        Script s = square("Part IX: shift A X Y: A's at x - X, y - Y, CLEAR off the screen");
        s.text("shift 0 -10 -10").due(2, "node").text("shift 0 33 17").due(3, "node").text("shift 0 34 18");
        s.due(4, "node");
        s.text("shift 0 0 0").due(5, "node").text("shift 1 47 0").due(6, "node").text("shift 1 48 0").due(7, "node");
        s.text("shift 1 0 -31").due(8, "node");
        s.text("shift 1 0 -32").due(9, "node").due(25, "drawn", 2, 0).due(1118481, "sample", 2, 0, 0, 0);
        s.due(25, "drawn", 3, 0);
        s.due(1118481, "sample", 3, 0, 47, 31).due(16, "drawn", 4, 0).due(25, "drawn", 5, 0).due(32, "drawn", 6, 0);
        s.due(200, "sample", 6, 0, 47, 31);
        s.due(0, "drawn", 7, 0).due(48, "drawn", 8, 0).due(200, "sample", 8, 0, 47, 0).due(0, "drawn", 9, 0);
    }

    private static void mattesOfClear() {
        Script s = square("Part IX: matte A B: A's where B's is not CLEAR");
        s.text("matte 1 0").due(2, "node").text("matte 0 1").due(3, "node").text("layer 3 0").due(4, "node");
        s.text("matte 1 4").due(5, "node");
        s.text("matte 4 1").due(6, "node").due(25, "drawn", 2, 0).due(200, "sample", 2, 0, 14, 14);
        s.due(-1, "sample", 2, 0, 15, 14);
        s.due(25, "drawn", 3, 0).due(1118481, "sample", 3, 0, 14, 14).due(0, "drawn", 5, 0).due(0, "drawn", 6, 0);
        s.text("paper 0").due(7, "node").text("matte 1 7").due(8, "node").due(1536, "drawn", 8, 0);
    }

    private static void fadesAheadAndBehind() {
        Script s = on("Part IX: s is KEPT(f - F, G - F)");
        s.text("paper 0").due(0, "node").text("paper 6579300").due(1, "node").text("fade 0 1 10 20").due(2, "node");
        int[] frames = {0, 9, 10, 11, 19, 20, 21, 119};
        int[] due = {0, 0, 0, 10, 90, 100, 100, 100};
        for (int k = 0; k < frames.length; k++) {
            s.due(due[k] * 65793, "sample", 2, frames[k], 7, 7);
        }
        s.text("fade 0 1 0 119").due(3, "node").text("fade 0 1 118 119").due(4, "node").due(0, "sample", 3, 0, 0, 0);
        s.due(6579300, "sample", 3, 119, 0, 0);
        s.due(0, "sample", 4, 118, 0, 0).due(6579300, "sample", 4, 119, 0, 0).due(0, "sample", 4, 0, 0, 0);
        s.due(65793, "sample", 3, 1, 0, 0);
    }

    private static void fadesAtTheHalf() {
        Script s = square("Part IX: where A alone is, it, if 2 * s is below m; where B alone is, CLEAR, if 2 * s is below m");
        s.text("fade 0 1 10 14").due(2, "node").text("fade 1 0 10 14").due(3, "node").text("fade 0 1 10 15");
        s.due(4, "node");
        s.text("fade 1 0 10 15").due(5, "node").text("fade 0 1 0 1").due(6, "node");
        s.due(25, "drawn", 2, 11).due(1536, "drawn", 2, 12).due(1536, "drawn", 3, 11).due(25, "drawn", 3, 12);
        s.due(25, "drawn", 4, 12);
        s.due(1536, "drawn", 4, 13).due(1536, "drawn", 5, 12).due(25, "drawn", 5, 13).due(25, "drawn", 6, 0);
        s.due(1536, "drawn", 6, 1);
        s.due(200, "sample", 3, 11, 0, 0).due(-1, "sample", 3, 12, 0, 0).due(-1, "sample", 2, 11, 0, 0);
        s.due(200, "sample", 2, 12, 0, 0);
    }

    private static void fadesAreRounded() {
        Script s = on("Part IX: each of the three ROUND of (A * (m - s) + B * s) / m, a half upwards");
        s.text("paper 16711680").due(0, "node").text("paper 65535").due(1, "node").text("fade 0 1 0 2").due(2, "node");
        s.text("fade 1 0 0 2").due(3, "node");
        // 255 and 0: 127.5
        s.due(128 * 65793, "sample", 2, 1, 0, 0).due(128 * 65793, "sample", 3, 1, 0, 0).text("fade 0 1 0 119");
        s.due(4, "node");
        s.due(253 << 16 | 2 << 8 | 2, "sample", 4, 1, 0, 0).due(2 << 16 | 253 << 8 | 253, "sample", 4, 118, 0, 0);
        s.text("fade 0 0 0 3").due(5, "node").due(16711680, "sample", 5, 1, 0, 0).due(16711680, "sample", 5, 2, 0, 0);
    }

    private static void blursAtTheSides() {
        Script s = on("Part IX: blur A: over the PIXELS of the 3 by 3 around on the screen");
        // columns 0 and 46 have 1, the others 0: 10 and 255
        s.text("1 0,0 0,31").due(0, "stroke", 0).text("1 46,0 46,31").due(1, "stroke", 0).text("2 1,0 1,31");
        s.due(2, "stroke", 0);
        s.text("2 47,0 47,31").due(3, "stroke", 0).due(1118481, "colour", 0, 1, 10).due(2236962, "colour", 0, 2, 255);
        s.text("0").due(1, "sheet", 0).text("layer 0 0").due(0, "node").text("blur 0").due(1, "node");
        // at all of these there are as many of the one as of the other: 132.5
        for (int y : new int[] {0, 1, 16, 30, 31}) {
            for (int x : new int[] {0, 1, 46, 47}) {
                s.due(133, "sample", 1, 0, x, y);
            }
            s.due(-1, "sample", 1, 0, 2, y).due(-1, "sample", 1, 0, 45, y);
        }
        s.text("paper 16777215").due(2, "node").text("blur 2").due(3, "node").due(16777215, "sample", 3, 0, 0, 0);
        s.due(16777215, "sample", 3, 0, 47, 31).due(16777215, "sample", 3, 0, 24, 16);
        // one row at the upper side, one at the lower
        s.text("1 0,0 47,0").due(0, "stroke", 1).text("2 0,31 47,31").due(1, "stroke", 1).text("1").due(1, "sheet", 0);
        s.due(10, "sample", 1, 0, 0, 0).due(10, "sample", 1, 0, 47, 0).due(255, "sample", 1, 0, 0, 31);
        s.due(255, "sample", 1, 0, 47, 31);
        s.due(96, "drawn", 1, 0);
    }

    private static void blursOfClear() {
        Script s = square("Part IX: CLEAR where A is; else over those that are not CLEAR in A");
        s.text("blur 0").due(2, "node").text("layer 3 0").due(3, "node").text("blur 3").due(4, "node");
        s.due(25, "drawn", 2, 0).due(0, "drawn", 4, 0);
        // 17 and 34: a corner has 3 and 1, the PIXEL next to it 4 and 2, a side 3 and 3, the inside of a corner 5 and 4
        s.due(21 * 65793, "sample", 2, 0, 10, 10).due(23 * 65793, "sample", 2, 0, 11, 10);
        s.due(26 * 65793, "sample", 2, 0, 12, 10);
        s.due(25 * 65793, "sample", 2, 0, 11, 11).due(34 * 65793, "sample", 2, 0, 12, 12);
        s.due(-1, "sample", 2, 0, 9, 10);
        s.text("sparks 1 30 9 1 70000").due(5, "node").text("blur 5").due(6, "node").due(70000, "sample", 6, 0, 30, 9);
        s.due(1, "drawn", 6, 0);
    }

    private static void sparksOfTwentyFourFrames() {
        Script s = on("Part IX: SPARK k, with t = f - k, if t is 0 .. 23");
        // SEEDS are looked for whose SPARK 0 stays on the screen
        for (int seed = 0; seed < 40; seed++) {
            s.text("sparks " + seed + " 24 16 1 9").due(0, "node").due(9, "sample", 0, 0, 24, 16).due(1, "drawn", 0, 0);
            int last = s.same("drawn", 0, 23);
            s.due(0, "drawn", 0, 24).due(0, "drawn", 0, 119).due(1, "clear");
            if (last == 1 && seed > 10) {
                return;
            }
        }
        CHECKS.due("a SPARK that stays", 1, 0);
    }

    private static void sparksOneAfterTheOther() {
        Script s = on("Part IX: SPARK k, 0 .. N - 1");
        s.text("sparks 3 24 31 20 9").due(0, "node").text("sparks 3 24 31 1 9").due(1, "node");
        s.text("sparks 3 24 31 19 9").due(2, "node");
        for (int f = 0; f < 20; f++) {
            // SPARK f has just begun
            s.due(9, "sample", 0, f, 24, 31);
        }
        for (int f = 0; f < 45; f++) {
            s.same("drawn", 0, f);
            s.same("drawn", 1, f);
            s.same("drawn", 2, f);
            s.same("sample", 2, f, 24, 31);
        }
        s.due(0, "drawn", 0, 43).due(0, "drawn", 1, 24).due(0, "drawn", 2, 42);
    }

    private static void sparksOffTheScreen() {
        Script s = on("Part IX: where one lies it has C, elsewhere CLEAR");
        int[][] corners = {{0, 0}, {47, 0}, {0, 31}, {47, 31}};
        for (int k = 0; k < 4; k++) {
            s.text("sparks " + (k * 7 - 9) + " " + corners[k][0] + " " + corners[k][1] + " 20 0").due(k, "node");
            s.due(0, "sample", k, 0, corners[k][0], corners[k][1]).due(-1, "sample", k, 0, 24, 16);
            for (int f = 0; f < 44; f++) {
                s.same("drawn", k, f);
            }
            s.due(0, "drawn", k, 43);
        }
    }

    private static void sparksBySeedsThatWrap() {
        Script s = on("Part I: HASH: ints wrap, h exclusive-or (h >>> 15)");
        int[] seeds = {-99999, -1, 0, 1, 99999};
        for (int k = 0; k < seeds.length; k++) {
            s.text("sparks " + seeds[k] + " 24 16 5 1").due(k, "node");
            for (int f = 0; f < 24; f += 2) {
                s.same("drawn", k, f);
            }
            // where the first SPARK lies is looked for in the row where it began
            for (int x = 8; x < 41; x += 1) {
                s.same("sample", k, 1, x, 16);
            }
        }
    }

    private static void sampleRefuses() {
        Script s = on("Promise 45: NONE if that is CLEAR, or there are none such");
        s.due(-1, "sample", 0, 0, 0, 0).text("paper 5").due(0, "node");
        s.outside(-1, "sample", Script.with(0, 0, 0, 0), 0, 0, 0, 119, 0, 47, 0, 31).due(5, "sample", 0, 119, 47, 31);
        s.text("layer 0 0").due(1, "node").due(-1, "sample", 1, 0, 0, 0).due(-1, "sample", 9, 0, 0, 0);
        s.due(-1, "sample", 10, 0, 0, 0);
    }

    private static void drawnOfNoneAndOfAll() {
        Script s = on("Promise 46: how many SCREEN PIXELS of a node are not CLEAR");
        s.text("paper 0").due(0, "node").text("layer 0 0").due(1, "node").text("shift 0 47 31").due(2, "node");
        s.due(1536, "drawn", 0, 0).due(1536, "drawn", 0, 119).due(0, "drawn", 1, 0).due(1, "drawn", 2, 0);
    }

    private static void drawnRefuses() {
        Script s = on("Promise 46: NONE if there are none such");
        s.due(-1, "drawn", 0, 0).text("paper 5").due(0, "node").outside(-1, "drawn", Script.with(0, 0), 0, 0, 0, 119);
        s.due(1536, "drawn", 0, 119);
    }

    private static void nodesOnNodes() {
        Script s = square("Part IX: ten nodes, each on the one before");
        String[] texts = {"over 0 1", "blur 2", "shift 3 5 5", "over 4 3", "matte 5 2", "fade 6 1 0 119", "blur 7", "over 8 8"};
        for (int k = 0; k < texts.length; k++) {
            s.text(texts[k]).due(k + 2, "node");
        }
        s.due(1, "wiggle", 0, 3, 2, 2).due(1, "camera", 0, 3, -2, 70).due(2, "camera", 119, -3, 2, 58);
        for (int f = 0; f < 120; f += 17) {
            for (int n = 2; n < 10; n++) {
                s.same("sample", n, f, 12, 12);
                s.same("sample", n, f, 17, 17);
                s.same("drawn", n, f);
            }
        }
    }
}
