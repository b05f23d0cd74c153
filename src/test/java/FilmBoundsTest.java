/** Promises 47 to 49 and the films of part X, at their bounds: a test for each sentence that names one. */
public final class FilmBoundsTest {
    private static final Checks CHECKS = new Checks();

    public static void main(String[] args) {
        filmsOfOneAndOfEightFrames();
        filmsAllClear();
        filmsOfTheMostBytes();
        runsOfAsManyAsThereAre();
        runsOf255();
        runsOf255ThatAreNotSo();
        runsEndWithTheFrame();
        runsOfEveryOtherPixel();
        theFrameBefore();
        pixelsThatBecomeClear();
        bytesOfAColour();
        filmsInPlaceOfAnother();
        filmRefuses();
        aRefusedFilmChangesNothing();
        filmsStayAsTheyWereTaken();
        playedOfClear();
        playedRefuses();
        flickersOfNoneAndOfAll();
        flickersAtTheBounds();
        flickersOfWhatComesBack();
        flickerRefuses();
        flickersLeaveTheFilm();
        CHECKS.end();
    }

    private static Script on(String sentence) {
        return new Script(CHECKS, sentence);
    }

    /** Node 0 shows drawing k at FRAME k; each drawing has the strokes of a row, split by a bar. */
    private static Script shows(String sentence, String... drawings) {
        Script s = on(sentence);
        StringBuilder row = new StringBuilder();
        for (int d = 0; d < drawings.length; d++) {
            String[] strokes = drawings[d].isEmpty() ? new String[0] : drawings[d].split("\\|");
            for (int k = 0; k < strokes.length; k++) {
                s.text(strokes[k]).due(k, "stroke", d);
            }
            row.append(d > 0 ? " " : "").append(d);
        }
        return s.text(row.toString()).due(drawings.length, "sheet", 0).text("layer 0 0").due(0, "node");
    }

    private static void bytes(Script s, int... due) {
        for (int k = 0; k < due.length; k++) {
            s.due(due[k], "out", k);
        }
        s.due(-1, "out", due.length).due(due.length, "count", 5);
    }

    private static void filmsOfOneAndOfEightFrames() {
        Script s = on("Part X: of FRAMES from one to another one, at most 8");
        s.text("paper 5").due(0, "node").due(6158, "film", 0, 0, 0).due(1, "count", 4).due(6158, "count", 5);
        s.due(6158 + 7 * 14, "film", 0, 0, 7).due(8, "count", 4).due(-1, "film", 0, 0, 8).due(8, "count", 4);
        s.due(6158 + 7 * 14, "film", 0, 112, 119).due(8, "count", 4).due(-1, "film", 0, 111, 119);
        s.due(6158, "film", 0, 119, 119);
        s.due(1, "count", 4).due(6158 + 14, "film", 0, 118, 119).due(2, "count", 4);
    }

    private static void filmsAllClear() {
        Script s = on("Part X: all CLEAR ahead of the first");
        s.text("layer 0 0").due(0, "node").due(14, "film", 0, 0, 0);
        // 1,536 is six times 255, and 6
        bytes(s, 255, 0, 255, 0, 255, 0, 255, 0, 255, 0, 255, 0, 6, 0);
        s.due(8 * 14, "film", 0, 0, 7).due(6, "out", 8 * 14 - 2).due(0, "out", 8 * 14 - 1).due(-1, "out", 8 * 14);
    }

    private static void filmsOfTheMostBytes() {
        Script s = on("Promise 47: its bytes are written: how many, at the most");
        // a fade between papers is another number at each FRAME
        s.text("paper 16777215").due(0, "node").text("paper 1").due(1, "node").text("fade 0 1 0 119").due(2, "node");
        s.due(8 * 6158, "film", 2, 0, 7).due(8 * 6158, "count", 5).due(-1, "out", 8 * 6158).due(255, "out", 3);
        s.due(0, "out", 8 * 6158 - 26).due(6, "out", 8 * 6158 - 25);
        s.same("out", 8 * 6158 - 1);
        s.same("out", 7 * 6158);
        s.same("out", 7 * 6158 + 1);
        // each FRAME is seven RUNS of none that are as before
        for (int f = 0; f < 8; f++) {
            for (int run = 0; run < 6; run++) {
                s.due(0, "out", f * 6158 + run * 1022).due(255, "out", f * 6158 + run * 1022 + 1);
                s.due(1, "out", f * 6158 + run * 1022 + 2);
            }
        }
    }

    private static void runsOfAsManyAsThereAre() {
        Script s = shows("Part X: a byte: how many are as in the FRAME before, a byte: how many are not so", "1 3,0 4,0");
        // 1,531 are left: six times 255, and 1
        s.due(2 + 8 + 14, "film", 0, 0, 0);
        bytes(s, 3, 2, 1, 17, 17, 17, 1, 17, 17, 17, 255, 0, 255, 0, 255, 0, 255, 0, 255, 0, 255, 0, 1, 0);
    }

    private static void runsOf255() {
        // PIXEL 254 is 14,5
        Script s = shows("Part X: how many are as in the FRAME before, as many as there are, 255 at most", "1 15,5 16,5",
            "1 14,5 15,5|2 16,5 17,5", "1 16,5 17,5");
        s.due(2 + 8 + 12, "film", 0, 0, 0).due(255, "out", 0).due(2, "out", 1).due(1, "out", 2).due(255, "out", 10);
        s.due(0, "out", 11);
        s.due(4, "out", 20).due(0, "out", 21).due(2 + 16 + 12, "film", 0, 1, 1).due(254, "out", 0).due(4, "out", 1);
        s.due(1, "out", 2);
        // 256 ahead: 255 and none that are not so, then one
        s.due(4 + 8 + 12, "film", 0, 2, 2).due(255, "out", 0).due(0, "out", 1).due(1, "out", 2).due(2, "out", 3);
        s.due(1, "out", 4);
        // behind FRAME 0: 254 and one, one and two, the rest
        s.due(22 + 2 + 4 + 2 + 8 + 12, "film", 0, 0, 1).due(254, "out", 22).due(1, "out", 23).due(1, "out", 28);
        s.due(2, "out", 29);
    }

    private static void runsOf255ThatAreNotSo() {
        Script s = on("Part X: how many are not so, as many as there are, 255 at most");
        // all of it but the PIXELS that a matte leaves out: 256 from the begin on
        s.text("1 0,0 47,0").due(0, "stroke", 0).text("1 0,1 47,1").due(1, "stroke", 0).text("1 0,2 47,2");
        s.due(2, "stroke", 0);
        s.text("1 0,3 47,3").due(3, "stroke", 0).text("1 0,4 47,4").due(4, "stroke", 0).text("1 0,5 15,5");
        s.due(5, "stroke", 0);
        s.text("1 0,31 1,31").due(6, "stroke", 0).text("0").due(1, "sheet", 0).text("layer 0 0").due(0, "node");
        s.due(2 + 1020 + 2 + 4 + 8 + 2 + 8 + 2, "film", 0, 0, 0).due(0, "out", 0).due(255, "out", 1).due(1, "out", 2);
        // the second RUN has none that are as before, and one that is not
        s.due(0, "out", 1022).due(1, "out", 1023).due(1, "out", 1024).due(255, "out", 1028).due(0, "out", 1029);
    }

    private static void runsEndWithTheFrame() {
        Script s = shows("Part X: as long as PIXELS are left", "1 46,31 47,31", "1 46,31 47,31", "2 47,30 47,31|1 46,31 47,31");
        // the last RUN of a FRAME may end with those that are not so, and has no RUN behind it
        s.due(12 + 2 + 8, "film", 0, 0, 0).due(4, "out", 12).due(2, "out", 13).due(17, "out", 21).due(-1, "out", 22);
        s.due(22 + 14, "film", 0, 0, 1).due(255, "out", 22).due(6, "out", 34).due(0, "out", 35).due(-1, "out", 36);
    }

    private static void runsOfEveryOtherPixel() {
        Script s = on("Part X: RUNS of one and one");
        s.text("1 1,0 1,31").due(0, "stroke", 0).text("1 3,0 3,31").due(1, "stroke", 0).text("0").due(1, "sheet", 0);
        s.text("layer 0 0").due(0, "node").text("shift 0 4 0").due(1, "node").text("over 0 1").due(2, "node");
        s.text("shift 2 8 0").due(3, "node");
        s.text("over 2 3").due(4, "node").text("shift 4 16 0").due(5, "node").text("over 4 5").due(6, "node");
        s.text("shift 4 32 0").due(7, "node");
        s.text("over 6 7").due(8, "node").due(24 * 32, "drawn", 8, 0).due(24 * 32 * 6, "film", 8, 0, 0);
        for (int k = 0; k < 10; k++) {
            s.due(1, "out", 6 * k).due(1, "out", 6 * k + 1).due(1, "out", 6 * k + 2).due(17, "out", 6 * k + 3);
        }
        // PIXEL 47 of a row is the last one of its RUN: none is left behind 1,535
        s.due(17, "out", 24 * 32 * 6 - 1).due(-1, "out", 24 * 32 * 6);
    }

    private static void theFrameBefore() {
        Script s = shows("Part X: as in the FRAME before: another COLOUR is not", "1 0,0 1,0", "1 0,0 1,0", "2 0,0 1,0", "");
        s.due(24 + 14 + 24 + 18, "film", 0, 0, 3).due(0, "out", 0).due(2, "out", 1).due(1, "out", 2);
        s.due(255, "out", 24);
        s.due(0, "out", 38).due(2, "out", 39).due(1, "out", 40).due(34, "out", 41).due(0, "out", 62).due(2, "out", 63);
        s.due(0, "out", 64);
        s.due(0, "out", 65).due(255, "out", 66);
        // a film that begins later has nothing before it
        s.due(10 + 14, "film", 0, 2, 2).due(0, "out", 0).due(2, "out", 1).due(1, "out", 2).due(34, "out", 3);
        s.due(14, "film", 0, 3, 3);
    }

    private static void pixelsThatBecomeClear() {
        Script s = shows("Part X: a byte 0 for CLEAR", "1 0,0 1,0", "1 1,0 2,0");
        s.due(24 + 3 + 6 + 14, "film", 0, 0, 1);
        // FRAME 0: 0 2 .. 1,534 alike; FRAME 1: none alike, one that is CLEAR; one alike, one that is not; the rest
        s.due(0, "out", 24).due(1, "out", 25).due(0, "out", 26).due(1, "out", 27).due(1, "out", 28).due(1, "out", 29);
    }

    private static void bytesOfAColour() {
        Script s = on("Part X: or 1, RED, GREEN, BLUE");
        s.text("paper 66051").due(0, "node").text("paper 16777215").due(1, "node").text("paper 8388735").due(2, "node");
        s.text("paper 0").due(3, "node");
        int[][] due = {{1, 1, 2, 3}, {1, 255, 255, 255}, {1, 128, 0, 127}, {1, 0, 0, 0}};
        for (int n = 0; n < 4; n++) {
            s.due(6158, "film", n, 0, 0);
            for (int k = 0; k < 4; k++) {
                s.due(due[n][k], "out", 2 + k).due(due[n][k], "out", 6154 + k);
            }
        }
    }

    private static void filmsInPlaceOfAnother() {
        Script s = on("Promise 47: THE FILM is taken, in place of another one");
        s.text("paper 5").due(0, "node").text("layer 0 0").due(1, "node").due(6256, "film", 0, 0, 7);
        s.due(14, "film", 1, 3, 3);
        s.due(1, "count", 4).due(14, "count", 5).due(-1, "played", 0, 0, 0).due(-3, "played", 1, 0, 0);
        s.due(-1, "out", 14);
        s.due(6172, "film", 0, 3, 4).due(2, "count", 4).due(5, "played", 1, 47, 31).due(-3, "played", 2, 0, 0);
    }

    private static void filmRefuses() {
        Script s = on("Promise 47: NONE if there is no such node, FRAMES, or these are more than 8, or from is above to");
        s.due(-1, "film", 0, 0, 0).text("layer 0 0").due(0, "node");
        s.outside(-1, "film", Script.with(0, 0, 0), 0, 0, 0, 0, 0, 7);
        s.outside(-1, "film", Script.with(0, 119, 119), 0, 0, 112, 119, 119, 119).due(-1, "film", 0, 1, 0);
        s.due(-1, "film", 0, 119, 118);
        s.due(-1, "film", 0, 0, 119).due(-1, "film", 0, -1, 6).due(-1, "film", 0, 113, 120).due(0, "count", 4);
        s.due(0, "count", 5);
        s.due(-1, "film", 0, Integer.MIN_VALUE, Integer.MAX_VALUE);
        s.due(-1, "film", 0, Integer.MAX_VALUE, Integer.MIN_VALUE);
    }

    private static void aRefusedFilmChangesNothing() {
        Script s = on("Promise 47: NONE: THE FILM and its bytes stay");
        s.text("paper 5").due(0, "node").due(6172, "film", 0, 5, 6).due(-1, "film", 0, 0, 8).due(-1, "film", 1, 0, 0);
        s.due(-1, "film", 0, 6, 5);
        s.due(2, "count", 4).due(6172, "count", 5).due(5, "played", 1, 0, 0).due(255, "out", 1).due(0, "out", 6171);
        s.due(-1, "out", 6172);
    }

    private static void filmsStayAsTheyWereTaken() {
        Script s = shows("Promise 48: of THE FILM's FRAME n, as it was taken", "1 0,0 9,0", "2 0,0 9,0");
        s.same("film", 0, 0, 1);
        s.due(1118481, "colour", 0, 1, 7).due(0, "take", 0, 0).due(1, "clear").due(0, "sheet", 0);
        s.due(1118481, "played", 0, 9, 0).due(2236962, "played", 1, 0, 0).due(-1, "played", 0, 10, 0);
        s.due(2, "count", 4);
        s.due(0, "written", 5);
        s.same("count", 5);
        s.due(-1, "film", 0, 0, 0).due(1118481, "played", 0, 9, 0);
    }

    private static void playedOfClear() {
        Script s = shows("Promise 48: NONE if it is CLEAR", "1 0,0 9,0", "");
        s.same("film", 0, 0, 7);
        s.due(1118481, "played", 0, 9, 0).due(-1, "played", 0, 10, 0).due(-1, "played", 1, 9, 0);
        s.due(-1, "played", 7, 47, 31);
        // black is not
        s.due(1118481, "colour", 0, 1, 0);
        s.same("film", 0, 0, 0);
        s.due(0, "played", 0, 9, 0);
    }

    private static void playedRefuses() {
        Script s = on("Promise 48: STATE if there is no such FRAME or PIXEL");
        s.due(-3, "played", 0, 0, 0).text("paper 5").due(0, "node").due(-3, "played", 0, 0, 0);
        s.due(6172, "film", 0, 118, 119);
        s.outside(-3, "played", Script.with(0, 0, 0), 0, 1, 0, 47, 0, 31).due(-3, "played", 118, 0, 0);
        s.due(-3, "played", 2, 0, 0);
        s.due(5, "played", 1, 47, 31).due(6256, "film", 0, 0, 7).due(5, "played", 7, 47, 31).due(-3, "played", 8, 0, 0);
    }

    private static void flickersOfNoneAndOfAll() {
        Script s = on("Part X: how many PIXELS are not as in the FRAME before it while that one and the one behind it are alike");
        s.text("layer 0 0").due(0, "node").text("paper 5").due(1, "node").due(0, "flicker", 0, 1);
        s.due(0, "flicker", 1, 118);
        // a whole screen that comes for one FRAME
        s.text("1 0,0 47,0 47,31 0,31 0,0").due(0, "stroke", 0).due(1380, "fill", 0, 5, 5, 0, 2).text("-*5 0");
        s.due(6, "sheet", 0);
        s.due(0, "flicker", 0, 4).due(1536, "flicker", 0, 5).due(0, "flicker", 0, 6).text("0*5 - 0").due(7, "sheet", 0);
        s.due(1536, "flicker", 0, 5);
        s.due(1536, "flicker", 0, 6).due(0, "flicker", 0, 7);
    }

    private static void flickersAtTheBounds() {
        Script s = on("Promise 49: FLICKER of a FRAME, 1 .. 118");
        s.text("1 0,0 9,0").due(0, "stroke", 0).text("layer 0 0").due(0, "node").text("- 0 -*99 -*17 0 -");
        s.due(120, "sheet", 0);
        s.due(10, "flicker", 0, 1).due(10, "flicker", 0, 118).due(0, "flicker", 0, 2).due(0, "flicker", 0, 117);
        s.due(-1, "flicker", 0, 0).due(-1, "flicker", 0, 119).text("0 -*99 -*19 0").due(120, "sheet", 0);
        s.due(0, "flicker", 0, 1);
        s.due(0, "flicker", 0, 118);
    }

    private static void flickersOfWhatComesBack() {
        Script s = shows("Part X: while that one and the one behind it are alike there", "1 0,0 9,0", "1 5,0 14,0", "1 0,0 4,0", "2 0,0 4,0",
            "1 0,0 4,0", "2 0,0 4,0|1 8,0 9,0");
        // at 1: 0 .. 4 go and come back; 5 .. 9 stay, then go; 10 .. 14 come and go
        s.due(10, "flicker", 0, 1).due(0, "flicker", 0, 2);
        // another COLOUR and back, and back again; what comes with it and goes
        s.due(5, "flicker", 0, 3).due(5, "flicker", 0, 4).due(2, "flicker", 0, 5);
    }

    private static void flickerRefuses() {
        Script s = on("Promise 49: NONE if there are none such");
        s.due(-1, "flicker", 0, 1).text("paper 5").due(0, "node");
        s.outside(-1, "flicker", Script.with(0, 1), 0, 0, 1, 118);
        s.due(0, "flicker", 0, 118);
    }

    private static void flickersLeaveTheFilm() {
        Script s = shows("Promise 49: THE FILM and THE OUT stay", "1 0,0 9,0", "1 5,0 14,0", "1 0,0 9,0");
        s.same("film", 0, 0, 2);
        s.due(10, "flicker", 0, 1).due(1118481, "played", 0, 0, 0).due(-1, "played", 1, 0, 0);
        s.due(1118481, "played", 1, 14, 0);
        s.due(0, "out", 0).due(10, "out", 1).due(3, "count", 4);
    }
}
