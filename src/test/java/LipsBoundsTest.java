/** Promises 33 to 37 and part VII of the terms, at their bounds: a test for each sentence that names one. */
public final class LipsBoundsTest {
    private static final Checks CHECKS = new Checks();

    public static void main(String[] args) {
        groupsOneAtLeast();
        lettersOneAtLeast();
        mouthsOfLetters();
        theLastOneTold();
        wrongLanguagesChangeNothing();
        wrongLanguagesAreNotTakenUpLater();
        letterRefuses();
        soundsOneAtLeast();
        framesOfASound();
        framesOfASpeech();
        soundsAreAskedWhenTheyHaveBeenRead();
        neighboursAreOne();
        singleFramesGo();
        theLastSingleFrame();
        oneMouthMayBeSingle();
        neighboursAreOneAgain();
        theFirstSingleGoesFirst();
        speechesInPlaceOfOthers();
        mouthsByTheLanguageAsItWas();
        mouthsOfTheMost();
        mouthRefuses();
        blinksAtTheFirst();
        blinksOfThreeFrames();
        blinksAtTheBounds();
        blinkRefuses();
        CHECKS.end();
    }

    private static Script on(String sentence) {
        return new Script(CHECKS, sentence);
    }

    /** A SPEECH by a LANGUAGE of a 1, b 2, c 3, d 4, and the MOUTHS that are due, each with its FRAMES. */
    private static void says(Script s, String speech, int... due) {
        s.text("a=1 b=2 c=3 d=4").due(4, "language").text(speech).due(due.length / 2, "speech");
        s.due(due.length / 2, "count", 6);
        int first = 0;
        for (int k = 0; k < due.length / 2; k++) {
            s.due(due[2 * k], "mouth", k, 0).due(first, "mouth", k, 1).due(due[2 * k + 1], "mouth", k, 2);
            first += due[2 * k + 1];
        }
        s.due(-1, "mouth", due.length / 2, 0);
    }

    private static void groupsOneAtLeast() {
        Script s = on("Part VII: a text of groups, one at least, with a blank between");
        s.wrong(0, "", "language").wrong(0, " ", "language").wrong(4, "a=1 ", "language");
        s.wrong(4, "a=1  b=2", "language");
        s.wrong(0, " a=1", "language").wrong(3, "a=1,b=2", "language").wrong(3, "a=1b=2", "language").text("a=1");
        s.due(1, "language");
        s.text("a=1 b=2").due(2, "language").text(Checks.repeat("z=7", 400)).due(400, "language");
    }

    private static void lettersOneAtLeast() {
        Script s = on("Part VII: letters, one at least, =");
        s.wrong(0, "=1", "language").wrong(4, "a=1 =2", "language").wrong(1, "a", "language");
        s.wrong(1, "a1", "language");
        s.wrong(1, "a b=1", "language").wrong(0, "A=1", "language").wrong(1, "aB=1", "language");
        s.wrong(0, "`=1", "language");
        s.wrong(0, "{=1", "language").wrong(1, "a.=1", "language").text("abcdefghijklmnopqrstuvwxyz=3");
        s.due(1, "language");
        s.due(3, "letter", 0).due(3, "letter", 25).text("az=5").due(1, "language").due(5, "letter", 0);
        s.due(3, "letter", 1);
        s.due(5, "letter", 25);
    }

    private static void mouthsOfLetters() {
        Script s = on("Part VII: a MOUTH 0 .. 7 (a digit)");
        s.text("a=0").due(1, "language").text("a=7").due(1, "language").due(7, "letter", 0).wrong(2, "a=8", "language");
        s.wrong(2, "a=9", "language").wrong(3, "a=00", "language").wrong(3, "a=10", "language");
        s.wrong(2, "a=-1", "language");
        s.wrong(2, "a=", "language").wrong(2, "a=x", "language").wrong(2, "a==1", "language").due(7, "letter", 0);
    }

    private static void theLastOneTold() {
        Script s = on("Part VII: these letters have it (the last one told); others stay");
        s.text("aba=1 b=2 a=3 b=4").due(4, "language").due(3, "letter", 0).due(4, "letter", 1).due(0, "letter", 2);
        s.text("c=5").due(1, "language").due(3, "letter", 0).due(4, "letter", 1).due(5, "letter", 2);
    }

    private static void wrongLanguagesChangeNothing() {
        Script s = on("Promise 33: THE TAPE is a LANGUAGE: how many groups; WRONG");
        s.text("abc=1").due(1, "language").wrong(6, "a=2 b=8", "language").wrong(4, "a=2 ", "language");
        s.wrong(3, "a=23", "language");
        for (int k = 0; k < 26; k++) {
            s.due(k < 3 ? 1 : 0, "letter", k);
        }
    }

    private static void wrongLanguagesAreNotTakenUpLater() {
        Script s = on("Part VII: others stay, also behind a LANGUAGE that was WRONG");
        s.wrong(3, "q=7x", "language").wrong(8, "q=7 z=5 !", "language").text("a=1").due(1, "language");
        s.due(1, "letter", 0);
        s.due(0, "letter", 16).due(0, "letter", 25);
    }

    private static void letterRefuses() {
        Script s = on("Promise 34: 0 for a .. 25; NONE if there is none such");
        s.text("az=6").due(1, "language").outside(-1, "letter", Script.with(0), 0, 25).due(6, "letter", 0);
        s.due(6, "letter", 25);
    }

    private static void soundsOneAtLeast() {
        Script s = on("Part VII: a text of SOUNDS, one at least, with a blank between: a letter, or .");
        s.wrong(0, "", "speech").wrong(0, " ", "speech").wrong(3, "a1 ", "speech").wrong(3, "a1  b1", "speech");
        s.wrong(0, " a1", "speech");
        s.wrong(2, "a1b1", "speech").wrong(0, "1", "speech").wrong(0, "A1", "speech").wrong(0, "{1", "speech");
        s.wrong(0, "`1", "speech");
        s.wrong(0, "-1", "speech").wrong(1, "aa1", "speech").wrong(1, "..1", "speech").wrong(1, "a 1", "speech");
        s.due(0, "count", 6);
        s.text("z1").due(1, "speech").text(".1").due(1, "speech").due(0, "mouth", 0, 0);
    }

    private static void framesOfASound() {
        Script s = on("Part VII: right behind it a NUMBER 1 .. 99 of FRAMES");
        s.wrong(1, "a0", "speech").wrong(1, "a100", "speech").wrong(1, "a", "speech").wrong(1, ".", "speech");
        s.wrong(2, "a01", "speech");
        s.wrong(1, ".0", "speech").wrong(4, "a1 b100", "speech").due(0, "count", 6).text("a1").due(1, "speech");
        s.due(1, "mouth", 0, 2);
        s.text("a99").due(1, "speech").due(99, "mouth", 0, 2);
    }

    private static void framesOfASpeech() {
        Script s = on("Part VII: 120 in all at most (one by which there would be more is one too many)");
        s.text("a99 .21").due(1, "speech").due(120, "mouth", 0, 2).wrong(4, "a99 .22", "speech");
        s.wrong(8, "a99 .21 b1", "speech");
        s.wrong(8, "a99 .21 ", "speech").wrong(4, "a99 b99 c", "speech").due(120, "mouth", 0, 2);
        s.text(Checks.repeat("a1", 120)).due(1, "speech").wrong(360, Checks.repeat("a1", 121), "speech");
        s.due(1, "count", 6);
    }

    private static void soundsAreAskedWhenTheyHaveBeenRead() {
        Script s = on("Part I: a SOUND is asked for this when it has been read");
        s.wrong(9, "a99 b21 c", "speech").wrong(9, "a99 b21 c0", "speech").wrong(9, "a99 b21 c100", "speech");
        s.wrong(8, "a99 b21 !", "speech").wrong(8, "a99 b21 c1x", "speech").wrong(10, "a99 b21 c01", "speech");
        s.wrong(4, "a99 b22 !", "speech").due(0, "count", 6);
    }

    private static void neighboursAreOne() {
        Script s = on("Part VII: neighbours with the same MOUTH are one");
        says(s, "a5 a3", 1, 8);
        says(s, "a1 a1", 1, 2);
        says(s, "z2 .2 y2", 0, 6);
        says(s, "a2 b2 a2", 1, 2, 2, 2, 1, 2);
        // two single FRAMES of the same are none that is single
        says(s, "a3 b1 b1 c3", 1, 3, 2, 2, 3, 3);
    }

    private static void singleFramesGo() {
        Script s = on("Part VII: the first such goes, its FRAME to the one behind it");
        says(s, "a1 b5", 2, 6);
        says(s, "a5 b1 c5", 1, 5, 3, 6);
        says(s, "a5 b1 c1 d5", 1, 5, 3, 2, 4, 5);
    }

    private static void theLastSingleFrame() {
        Script s = on("Part VII: (the last one's: ahead of it)");
        says(s, "a5 b1", 1, 6);
        says(s, "a5 b5 c1", 1, 5, 2, 6);
        says(s, "a5 b1 c1", 1, 5, 3, 2);
        says(s, "a1 b1 c1", 2, 3);
    }

    private static void oneMouthMayBeSingle() {
        Script s = on("Part VII: as long as there are two or more, and one has a single FRAME");
        says(s, "a1", 1, 1);
        says(s, ".1", 0, 1);
        says(s, "a1 b1", 2, 2);
        says(s, "a2 b2", 1, 2, 2, 2);
    }

    private static void neighboursAreOneAgain() {
        Script s = on("Part VII: and neighbours with the same MOUTH are one again");
        says(s, "a5 b1 a5", 1, 11);
        says(s, "a2 b1 a1 c1 a2", 1, 7);
        says(s, "a5 b2 c1 b2 d1", 1, 5, 2, 6);
        // b goes to a: two of a, which is single no more
        says(s, "c3 b1 a1 d3", 3, 3, 1, 2, 4, 3);
    }

    private static void theFirstSingleGoesFirst() {
        Script s = on("Part VII: the first such goes");
        says(s, "a1 b1 a1 b1", 2, 4);
        says(s, "a1 b1 c1 d1", 2, 2, 4, 2);
        says(s, "a2 b1 c1 d1", 1, 2, 3, 3);
    }

    private static void speechesInPlaceOfOthers() {
        Script s = on("Promise 35: THE TAPE is SPEECH, in place of another one; WRONG");
        says(s, "a5 b5 c5", 1, 5, 2, 5, 3, 5);
        s.wrong(3, "d5 !", "speech").wrong(0, "", "speech").wrong(8, "d99 d21 a1", "speech").due(3, "count", 6);
        s.due(3, "mouth", 2, 0);
        says(s, "d7", 4, 7);
        s.due(-1, "mouth", 1, 0).due(-1, "mouth", 2, 0);
    }

    private static void mouthsByTheLanguageAsItWas() {
        Script s = on("Promise 36: by the LANGUAGE as it was then");
        says(s, "a5 b5", 1, 5, 2, 5);
        s.text("ab=7").due(1, "language").due(1, "mouth", 0, 0).due(2, "mouth", 1, 0).due(2, "count", 6);
        s.text("a5 b5").due(1, "speech").due(7, "mouth", 0, 0).due(10, "mouth", 0, 2);
    }

    private static void mouthsOfTheMost() {
        Script s = on("Promise 36: MOUTH i of the SPEECH, of sixty");
        s.text("a=1 b=2").due(2, "language").text(Checks.repeat("a2 b2", 30)).due(60, "speech").due(60, "count", 6);
        for (int k = 0; k < 60; k++) {
            s.due(1 + k % 2, "mouth", k, 0).due(2 * k, "mouth", k, 1).due(2, "mouth", k, 2);
        }
        s.due(-1, "mouth", 60, 0).due(-1, "mouth", 60, 1).due(-1, "mouth", 60, 2);
    }

    private static void mouthRefuses() {
        Script s = on("Promise 36: NONE if there is none such, or another what");
        s.due(-1, "mouth", 0, 0).due(-1, "mouth", 0, 1).due(-1, "mouth", 0, 2);
        says(s, "a5 b5", 1, 5, 2, 5);
        s.outside(-1, "mouth", Script.with(0, 0), 0, 1, 0, 2).outside(-1, "mouth", Script.with(1, 2), 0, 1, 0, 2);
    }

    private static void blinksAtTheFirst() {
        Script s = on("Part VII: the first begins at FRAME 20 + (a draw mod 32)");
        // R is 12345, so the draw is 0
        s.due(0, "blink", 0, 0).due(0, "blink", 0, 19).due(1, "blink", 0, 20).due(1, "blink", 0, 22);
        s.due(0, "blink", 0, 23);
        for (int seed = -40; seed < 40; seed++) {
            int first = 20;
            while (s.same("blink", seed, first) == 0 && first < 51) {
                first += first < 48 ? 3 : 1;
            }
            CHECKS.due("one of the first 32 FRAMES from 20 on for " + seed, 1, s.same("blink", seed, first));
            if (s.calls() > 450) {
                break;
            }
        }
    }

    private static void blinksOfThreeFrames() {
        Script s = on("Part VII: each lasts 3 FRAMES, each further one 24 + (a draw mod 64) FRAMES behind the begin");
        int shut = 0;
        int open = 0;
        for (int f = 0; f < 500; f++) {
            int now = s.same("blink", 5, f);
            if (now == 0 && shut > 0) {
                CHECKS.due("three FRAMES", 3, shut);
                open = 0;
            }
            if (now == 1 && shut == 0 && f > 60) {
                CHECKS.due("21 to 84 between", 1, open >= 21 && open <= 84 ? 1 : 0);
            }
            shut = now == 1 ? shut + 1 : 0;
            open += 1 - now;
        }
    }

    private static void blinksAtTheBounds() {
        Script s = on("Promise 37: at a FRAME, here 0 .. 9,999, by a SEED (ints wrap)");
        for (int seed : new int[] {0, 1, -1, Integer.MIN_VALUE, Integer.MAX_VALUE, 1103515245}) {
            int shut = 0;
            for (int f = 9999; f > 9999 - 70; f--) {
                shut += s.same("blink", seed, f);
            }
            CHECKS.due("in 70 FRAMES at most three", 1, shut <= 9 ? 1 : 0);
            s.due(0, "blink", seed, 0);
        }
    }

    private static void blinkRefuses() {
        Script s = on("Promise 37: NONE if it can't be");
        for (int seed : new int[] {0, -1, Integer.MIN_VALUE, Integer.MAX_VALUE}) {
            s.due(-1, "blink", seed, -1).due(-1, "blink", seed, 10000).due(-1, "blink", seed, Integer.MIN_VALUE);
            s.due(-1, "blink", seed, Integer.MAX_VALUE);
        }
    }
}
