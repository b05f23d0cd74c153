/** Promises 50 to 52 and the tracks of part X, at their bounds: a test for each sentence that names one. */
public final class TrackBoundsTest {
    private static final Checks CHECKS = new Checks();

    public static void main(String[] args) {
        samplesOfNone();
        samplesAtTheBounds();
        samplesOneTooMany();
        blanksBetweenSamples();
        beginsAtTheBounds();
        tracksInPlaceOfOthers();
        trackRefuses();
        wrongTracksChangeNothing();
        mixesWithoutSamples();
        mixesAtTheBounds();
        mixesOfThree();
        mixesAtAnyPlace();
        countsOfStrokesAndFills();
        countsOfTheOthers();
        countRefuses();
        CHECKS.end();
    }

    private static Script on(String sentence) {
        return new Script(CHECKS, sentence);
    }

    private static void samplesOfNone() {
        Script s = on("Part X: as a text INTS with a blank between (perhaps none)");
        s.due(0, "track", 0, 0).text("5 6").due(2, "track", 0, 0).due(5, "mix", 0).due(0, "track", 0, 999);
        s.due(0, "mix", 0).due(0, "mix", 999);
        s.wrong(0, " ", "track", 0, 0);
    }

    private static void samplesAtTheBounds() {
        Script s = on("Part X: samples, -100 .. 100");
        s.text("-100 100 0").due(3, "track", 2, 7).due(-100, "mix", 7).due(100, "mix", 8).due(0, "mix", 9);
        s.wrong(0, "101", "track", 2, 0).wrong(0, "-101", "track", 2, 0).wrong(5, "-100 101", "track", 2, 0);
        s.wrong(4, "100 -101 x", "track", 2, 0);
        s.due(-100, "mix", 7);
    }

    private static void samplesOneTooMany() {
        Script s = on("Part X: samples, at most 100");
        String hundred = Checks.repeat("7", 99) + " -9";
        s.text(hundred).due(100, "track", 0, 0).due(7, "mix", 98).due(-9, "mix", 99).due(0, "mix", 100);
        // the one too many is asked for at its first byte, whatever it is; a blank ahead of it is right
        s.wrong(201, hundred + " 1", "track", 0, 0).wrong(201, hundred + " 101", "track", 0, 0);
        s.wrong(201, hundred + " x", "track", 0, 0);
        s.wrong(201, hundred + " ", "track", 0, 0).wrong(200, hundred + ",", "track", 0, 0);
        s.wrong(201, hundred + " 1 x", "track", 0, 0);
        s.due(-9, "mix", 99).text(Checks.repeat("-100", 100)).due(100, "track", 1, 999).due(-100, "mix", 1098);
        s.due(0, "mix", 1099);
    }

    private static void blanksBetweenSamples() {
        Script s = on("Part X: INTS with a blank between");
        s.wrong(2, "1  2", "track", 0, 0).wrong(0, " 1", "track", 0, 0).wrong(2, "1 ", "track", 0, 0);
        s.wrong(1, "1,2", "track", 0, 0);
        s.wrong(1, "1-2", "track", 0, 0).wrong(1, "1\n2", "track", 0, 0).wrong(0, "x", "track", 0, 0);
        s.wrong(2, "1 x", "track", 0, 0);
        s.text("1 -2 3").due(3, "track", 0, 0).due(-2, "mix", 1);
    }

    private static void beginsAtTheBounds() {
        Script s = on("Part X: a BEGIN 0 .. 999");
        for (int t = 0; t < 3; t++) {
            s.text((t + 1) + "").due(1, "track", t, 0).due(t + 1, "mix", 0).text((t + 1) + "").due(1, "track", t, 999);
            s.due(t + 1, "mix", 999).due(0, "mix", 0).due(0, "mix", 998).due(0, "mix", 1000).due(0, "track", t, 0);
        }
    }

    private static void tracksInPlaceOfOthers() {
        Script s = on("Promise 50: THE TAPE is a TRACK's samples, with a BEGIN: how many");
        s.text("1 2 3 4").due(4, "track", 0, 10).text("5").due(1, "track", 0, 11).due(0, "mix", 10).due(5, "mix", 11);
        s.due(0, "mix", 12);
        s.text("6").due(1, "track", 1, 11).due(11, "mix", 11).due(0, "track", 0, 0).due(6, "mix", 11);
    }

    private static void trackRefuses() {
        Script s = on("Promise 50: NONE if one can't be, told ahead of WRONG");
        int[] wrong = {-1, 3, Integer.MIN_VALUE, Integer.MAX_VALUE};
        int[] begins = {-1, 1000, Integer.MIN_VALUE, Integer.MAX_VALUE};
        s.text("9").due(1, "track", 0, 0).text("9").due(1, "track", 2, 999);
        for (int k = 0; k < 4; k++) {
            s.text("1").due(-1, "track", wrong[k], 0).text("1").due(-1, "track", 0, begins[k]).text("x");
            s.due(-1, "track", wrong[k], 0);
            s.text("x").due(-1, "track", 0, begins[k]).due(-1, "track", wrong[k], begins[k]);
        }
        s.due(9, "mix", 0).due(9, "mix", 999);
    }

    private static void wrongTracksChangeNothing() {
        Script s = on("Promise 50: WRONG: samples and BEGIN stay");
        s.text("50 60").due(2, "track", 1, 3).wrong(4, "1 2 x", "track", 1, 0).wrong(2, "9 101", "track", 1, 5);
        s.due(50, "mix", 3);
        s.due(60, "mix", 4).due(0, "mix", 0).due(0, "mix", 5);
    }

    private static void mixesWithoutSamples() {
        Script s = on("Part X: sample k - BEGIN; 0 without one");
        s.due(0, "mix", 0).text("8 9").due(2, "track", 0, 500).due(0, "mix", 499).due(8, "mix", 500).due(9, "mix", 501);
        s.due(0, "mix", 502);
        s.due(0, "mix", 0).due(0, "mix", 1).due(0, "mix", -1);
    }

    private static void mixesAtTheBounds() {
        Script s = on("Part X: but -128 if that is less, 127 if it is more");
        s.text("27 28 100 -28 -29 -100 26 -27").due(8, "track", 0, 0).text("100 100 100 -100 -100 -100 100 -100");
        s.due(8, "track", 1, 0);
        int[] due = {127, 127, 127, -128, -128, -128, 126, -127};
        for (int k = 0; k < due.length; k++) {
            s.due(due[k], "mix", k);
        }
    }

    private static void mixesOfThree() {
        Script s = on("Part X: the sum of what the TRACKS have there, all of it before it is cut");
        s.text("100 -100 100").due(3, "track", 0, 0).text("100 -100 100").due(3, "track", 1, 0).text("-100 100 100");
        s.due(3, "track", 2, 0);
        s.due(100, "mix", 0).due(-100, "mix", 1).due(127, "mix", 2).text("-100 -100 -73").due(3, "track", 2, 0);
        s.due(127, "mix", 2);
        s.text("-100 -100 -74").due(3, "track", 2, 0).due(126, "mix", 2).due(-128, "mix", 1);
    }

    private static void mixesAtAnyPlace() {
        Script s = on("Promise 51: THE MIX at a place (any)");
        s.text(Checks.repeat("3", 100)).due(100, "track", 0, 0).text(Checks.repeat("5", 100)).due(100, "track", 1, 999);
        for (int k : new int[] {Integer.MIN_VALUE, Integer.MIN_VALUE + 1, Integer.MIN_VALUE + 998, Integer.MIN_VALUE + 999,
            Integer.MIN_VALUE + 1098, -1000, -999, -1, 100, 998, 1099, 1600, Integer.MAX_VALUE, Integer.MAX_VALUE - 1}) {
            s.due(0, "mix", k);
        }
        s.due(3, "mix", 0).due(3, "mix", 99).due(5, "mix", 999).due(5, "mix", 1098);
    }

    private static void countsOfStrokesAndFills() {
        Script s = on("Promise 52: 0: STROKES of all drawings, 1: FILLS");
        String box = "1 1,1 3,1 3,3 1,3 1,1";
        for (int d = 0; d < 16; d++) {
            s.text(box).due(0, "stroke", d).due(d + 1, "count", 0).due(1, "fill", d, 2, 2, 0, 1).due(d + 1, "count", 1);
        }
        for (int d = 0; d < 16; d++) {
            s.due(0, "take", d, 0).due(15 - d, "count", 0).due(16 - d, "count", 1).due(0, "unfill", d, 0);
            s.due(15 - d, "count", 1);
        }
    }

    private static void countsOfTheOthers() {
        Script s = on("Promise 52: 2: bones .. 9: bytes on THE TAPE");
        s.due(0, "bone", -1, 1, 0, 0).due(1, "count", 2).text("paper 1").due(0, "node").due(1, "count", 3);
        s.due(6172, "film", 0, 0, 1).due(2, "count", 4).due(6172, "count", 5).text("a=1").due(1, "language");
        s.text("a5 b5").due(2, "speech");
        s.due(2, "count", 6).due(1, "mark", 0, 0).due(1, "count", 7).due(1, "camera", 0, 0, 0, 64).due(1, "count", 8);
        s.due(20, "feed", 0, 0, 0, 0, 0).due(20, "count", 9).due(3, "end", 3).due(3, "count", 9).due(0, "end", 0);
        s.due(0, "count", 9);
        s.due(1, "unmark").due(0, "count", 7).due(1, "clear").due(0, "count", 3).due(0, "camera", 0, 0, 0, 0);
        s.due(0, "count", 8);
        s.due(2, "count", 4).due(6172, "count", 5).due(2, "count", 6).due(1, "count", 2).due(0, "count", 0);
        s.due(0, "count", 1);
    }

    private static void countRefuses() {
        Script s = on("Promise 52: NONE for another what");
        s.outside(-1, "count", Script.with(0), 0, 9).due(-1, "count", 11).due(-1, "count", 100).due(0, "count", 9);
        s.due(0, "count", 0);
    }
}
