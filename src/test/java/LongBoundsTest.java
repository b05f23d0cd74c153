/** Bounds that only a long run of calls reaches: each run goes up to the 512 calls of which answers are promised. */
public final class LongBoundsTest {
    private static final Checks CHECKS = new Checks();
    private static final String SMALL = "1 1,1 4,1 4,4 1,1";

    public static void main(String[] args) {
        allDrawingsFullOfStrokes();
        allDrawingsFullOfFills();
        strokesComeAndGo();
        erasedAgainAndAgain();
        fillsComeAndGo();
        theTapeFilledAgainAndAgain();
        wrongTextsAgainAndAgain();
        rowsAgainAndAgain();
        marksAndMatchesAgainAndAgain();
        tweensOfTweens();
        keysAgainAndAgain();
        reachesAgainAndAgain();
        cameraKeysComeAndGo();
        speechesAgainAndAgain();
        nodesComeAndGo();
        filmsAgainAndAgain();
        tracksAgainAndAgain();
        allFullAtOnce();
        theLastCall();
        CHECKS.end();
    }

    private static Script on(String sentence) {
        return new Script(CHECKS, sentence);
    }

    private static void allDrawingsFullOfStrokes() {
        Script s = on("Part II: DRAWINGS 0 .. 15 have STROKES, at most 8 each");
        for (int k = 0; k < 8; k++) {
            for (int d = 0; d < 16; d++) {
                s.text((k + 1) + " " + d + ",0 20,1" + k).due(k, "stroke", d);
            }
        }
        s.due(128, "count", 0);
        for (int d = 0; d < 16; d++) {
            s.text("9 0,0 1,1").due(-4, "stroke", d).due(d < 10 ? 8 * 12 : 8 * 13, "written", d);
        }
        s.due('1', "out", 2).due('5', "out", 3).due(128, "count", 0).due(7, "take", 15, 0).due(127, "count", 0);
        s.text("9 0,0 1,1").due(7, "stroke", 15).due(128, "count", 0);
    }

    private static void allDrawingsFullOfFills() {
        Script s = on("Part III: a drawing has FILLS, at most 6");
        for (int d = 0; d < 16; d++) {
            s.text(SMALL).due(0, "stroke", d);
            for (int k = 1; k <= 6; k++) {
                s.due(1, "fill", d, 3, 2, k, k);
            }
            s.due(-4, "fill", d, 3, 2, 0, 7).due(6, "paint", d, 3, 2).due(6 * d + 6, "count", 1);
        }
        for (int d = 0; d < 16; d++) {
            s.due(5, "unfill", d, 5).due(5, "paint", d, 3, 2).due(1, "region", d, 4).due(-1, "region", d, 5);
            s.due(1, "fill", d, 3, 2, 0, 8);
            s.due(-4, "fill", d, 3, 2, 0, 9).due(8, "paint", d, 3, 2).due(96, "count", 1);
        }
    }

    private static void strokesComeAndGo() {
        Script s = on("Promise 6: those behind it have numbers less by one, again and again");
        for (int k = 0; k < 8; k++) {
            s.text("1 " + k + ",0 9,9").due(k, "stroke", 0);
        }
        for (int k = 0; k < 90; k++) {
            s.due(7, "take", 0, k * 5 % 8).text((k % 15 + 1) + " " + k % 47 + ",0 9,9").due(7, "stroke", 0);
        }
        for (int k = 0; k < 8; k++) {
            s.same("area", 0, k);
        }
        s.same("written", 0);
        for (int k = 0; k < 80; k++) {
            s.same("out", k);
        }
        s.due(8, "count", 0);
    }

    private static void erasedAgainAndAgain() {
        Script s = on("Promise 9: more and more STROKES, up to FULL, again and again");
        for (int round = 0; round < 6; round++) {
            s.text("3 0,5 4,5 8,5 12,5 16,5 20,5 24,5 28,5 32,5 36,5").due(0, "stroke", 0);
            s.text("4 0,9 4,9 8,9 12,9 16,9 20,9 24,9 28,9 32,9 36,9").due(1, "stroke", 0);
            for (int k = 0; k < 4; k++) {
                s.due(1, "erase", 0, 6 + 8 * k, 5, 1).due(3 + k, "count", 0);
            }
            s.due(1, "erase", 0, 6, 9, 1).due(7, "count", 0).due(1, "erase", 0, 14, 9, 1).due(8, "count", 0);
            s.due(-4, "erase", 0, 22, 9, 1).due(-4, "erase", 0, 30, 9, 1).due(8, "count", 0);
            // the first SEGMENT of both rows, each a STROKE of its own by now
            s.due(2, "erase", 0, 2, 7, 2).due(6, "count", 0);
            int most = 0;
            for (int x = 0; x < 48 && s.same("count", 0) > 0 && most < 12; x += 9, most++) {
                s.same("erase", 0, Math.min(47, x), 7, 10);
            }
            s.due(0, "count", 0);
        }
    }

    private static void fillsComeAndGo() {
        Script s = on("Promise 13: those behind it have numbers less by one, again and again");
        s.text("1 10,10 20,10 20,20 10,20 10,10").due(0, "stroke", 0);
        for (int k = 0; k < 6; k++) {
            s.due(81, "fill", 0, 11 + k, 12, k, k + 1);
        }
        for (int k = 0; k < 120; k++) {
            s.due(5, "unfill", 0, k * 5 % 6).due(81, "fill", 0, 11 + k % 9, 12, k % 9, k % 15 + 1);
            s.due(k % 15 + 1, "paint", 0, 15, 15).due(81, "region", 0, k % 6);
        }
        for (int k = 5; k >= 0; k--) {
            s.same("paint", 0, 15, 15);
            s.due(k, "unfill", 0, k);
        }
        s.due(0, "paint", 0, 15, 15);
    }

    private static void theTapeFilledAgainAndAgain() {
        Script s = on("Promise 2: FULL if there would be more than 1,600, again and again");
        for (int round = 0; round < 6; round++) {
            for (int k = 1; k <= 80; k++) {
                s.due(20 * k, "feed", 0x31202020, round, k, -1, 0);
            }
            s.due(-4, "feed", 1, 2, 3, 4, 5).due(1600, "count", 9);
            switch (round % 3) {
                case 0: s.due(0, "end", 0); break;
                case 1: s.due(-1000, "node").due(0, "count", 9); break;
                default: s.due(-1, "stroke", 16).due(0, "count", 9); break;
            }
        }
        s.text("1 2,3 4,5").due(0, "stroke", 0).due(10, "written", 0).due('5', "out", 8);
    }

    private static void wrongTextsAgainAndAgain() {
        Script s = on("Part I: a WRONG text leaves nothing for the next one");
        for (int k = 0; k < 18; k++) {
            s.wrong(10, "1 0,0 9,9 9,9", "stroke", 0).text("2 " + k + ",0 9,9").due(0, "stroke", 0);
            s.due(0, "take", 0, 0);
            s.wrong(4, "7*9 x", "sheet", 0).text("8*9").due(9, "sheet", 0).wrong(3, "q=7x", "language");
            s.due(0, "letter", 16);
            s.wrong(3, "a9 !", "speech").wrong(5, "blur 0", "node").wrong(2, "9 101", "track", 0, 0).due(0, "mix", 0);
        }
    }

    private static void rowsAgainAndAgain() {
        Script s = on("Part IV: rows of 120 FRAMES, again and again");
        for (int k = 0; k < 40; k++) {
            s.text("(" + k % 16 + " -)*20 " + k % 16 + "*80").due(120, "sheet", k % 4);
            s.due(-4, "stretch", k % 4, 20, 19);
            s.due(60, "stretch", k % 4, 1, 2).due(k % 16, "shown", k % 4, 0).due(k % 16, "shown", k % 4, 1);
            s.due(120, "stretch", k % 4, 2, 1);
            s.due(k % 16, "shown", k % 4, 119).due(-1, "shown", k % 4, 120);
            s.same("told", k % 4);
            s.same("out", 4);
        }
    }

    private static void marksAndMatchesAgainAndAgain() {
        Script s = on("Promise 23: THE BEST of eight and eight, with MARKS that come and go");
        for (int k = 0; k < 8; k++) {
            s.text((k % 3 + 1) + " " + k * 5 + ",0 40," + k).due(k, "stroke", 0);
            s.text((k % 2 + 1) + " " + k * 3 + ",2 40," + (9 - k)).due(k, "stroke", 1);
        }
        for (int round = 0; round < 30; round++) {
            for (int k = 0; k < round % 5; k++) {
                s.due(k + 1, "mark", (k + round) % 8, (3 * k + 2 * round) % 8);
            }
            s.same("match", round % 2, 1 - round % 2);
            for (int k = 0; k < 8; k++) {
                s.same("partner", k);
            }
            s.due(round % 5, "unmark");
        }
    }

    private static void tweensOfTweens() {
        Script s = on("Promise 25: an IN-BETWEEN of IN-BETWEENS");
        for (int k = 0; k < 4; k++) {
            s.text((k + 1) + " " + k * 9 + ",0 40,30 1," + k).due(k, "stroke", 0);
            s.text((k + 2) + " " + k * 7 + ",3 47,31").due(k, "stroke", 1);
        }
        for (int k = 0; k < 110; k++) {
            s.same("tween", k % 5, (k + 1) % 5, k % 25, 24, (k + 2 + k % 3) % 5);
            s.same("written", (k + 2 + k % 3) % 5);
            s.same("out", 3 + k % 20);
            s.same("count", 0);
        }
    }

    private static void keysAgainAndAgain() {
        Script s = on("Part VI: KEYS of a bone, at most 6, in any order");
        s.due(0, "bone", -1, 20, 0, 31);
        for (int b = 1; b < 10; b++) {
            s.due(b, "bone", b - 1, 20, 0, 31);
        }
        for (int b = 0; b < 10; b++) {
            for (int k = 0; k < 6; k++) {
                s.due(k + 1, "key", b, (b * 31 + k * 47) % 120, (b + 5 * k) % 32);
            }
            s.due(-4, "key", b, (b * 31 + 6 * 47) % 120, 0).due((b + 5) % 32, "angle", b, (b * 31 + 47) % 120);
        }
        for (int f = 0; f < 120; f++) {
            s.same("angle", f % 10, f);
            s.same("at", 9, f, f % 2);
            s.same("swing", f % 10, f, f % 17, 16 - f % 17);
        }
        s.due(10, "count", 2);
    }

    private static void reachesAgainAndAgain() {
        Script s = on("Promise 31: KEYS by REACHES till a bone is FULL");
        for (int b = 0; b < 10; b++) {
            s.due(b, "bone", b - 1, 8, b, 8 + b);
        }
        for (int k = 0; k < 6; k++) {
            for (int b = 0; b < 10; b += 3) {
                s.same("reach", b, 20 * k, 10 * b - 40, 7 * k);
            }
        }
        for (int b = 0; b < 10; b++) {
            s.due(-4, "reach", b, 7, 0, 0);
            s.same("reach", b, 100, -400, 400);
            s.same("at", b, 100, 0);
            s.same("at", b, 110, 1);
            s.due(-4, "key", b, 7, b);
        }
    }

    private static void cameraKeysComeAndGo() {
        Script s = on("Promise 38: at most 8 KEYS, which come and go");
        for (int k = 0; k < 8; k++) {
            s.due(k + 1, "camera", k * 50 % 120, k, k, 64 + k);
        }
        for (int k = 0; k < 95; k++) {
            s.due(-4, "camera", 7, 0, 0, 64).due(7, "camera", k * 50 % 120, 0, 0, 0);
            s.due(8, "camera", (k + 8) * 50 % 120, k, -k, 64 + k);
            s.same("seen", k % 4, 30, 30, k, k % 2);
            s.same("cutOff", k % 4, k, 119);
        }
        s.due(8, "count", 8);
    }

    private static void speechesAgainAndAgain() {
        Script s = on("Promise 35: SPEECH, in place of another one, again and again");
        s.text("a=1 b=2 c=3").due(3, "language");
        String[] texts = {"a9 b9 c9 a9 b9", "a1", "a1 b1 c1 a1 b1 c1", ".99 c21", "b2 c1 b2"};
        int[] due = {5, 1, 3, 2, 1};
        for (int k = 0; k < 60; k++) {
            s.text(texts[k % 5]).due(due[k % 5], "speech").due(due[k % 5], "count", 6).due(-1, "mouth", due[k % 5], 0);
            s.same("mouth", due[k % 5] - 1, 0);
            s.same("mouth", due[k % 5] - 1, 1);
        }
    }

    private static void nodesComeAndGo() {
        Script s = on("Promise 44: all NODES go, again and again");
        String[] texts = {"paper 9", "layer 0 0", "over 1 0", "shift 2 -5 5", "matte 0 3", "fade 3 4 0 9", "blur 5", "sparks 1 9 9 9 9",
            "over 7 6", "blur 8"};
        for (int round = 0; round < 12; round++) {
            for (int k = 0; k < 10; k++) {
                s.text(texts[k]).due(k, "node");
            }
            s.text("paper 1").due(-4, "node").due(10, "count", 3);
            s.same("drawn", 9, round);
            s.due(10, "clear").due(-1, "drawn", 9, round).due(0, "count", 3);
        }
    }

    private static void filmsAgainAndAgain() {
        Script s = on("Promise 47: THE FILM is taken, in place of another one, again and again");
        s.text("paper 16777215").due(0, "node").text("paper 1").due(1, "node").text("fade 0 1 0 119").due(2, "node");
        s.text("layer 0 0").due(3, "node");
        for (int k = 0; k < 70; k++) {
            int most = k % 2 == 0 ? 8 * 6158 : 8 * 14;
            s.due(most, "film", k % 2 == 0 ? 2 : 3, k, k + 7).due(8, "count", 4).due(most, "count", 5);
            s.due(-1, "out", most);
            s.same("out", most - 1);
            s.same("played", 7, k % 48, k % 32);
            s.due(-3, "played", 8, 0, 0);
        }
    }

    private static void tracksAgainAndAgain() {
        Script s = on("Promise 50: a hundred samples, again and again");
        for (int k = 0; k < 24; k++) {
            s.text(Checks.repeat("" + k % 10, 100)).due(100, "track", k % 3, 40 * k).due(0, "mix", 40 * k + 180);
            s.same("mix", 40 * k);
            s.same("mix", 40 * k + 99);
            s.text("-" + (k + 1)).due(1, "track", k % 3, 40 * k);
            s.same("mix", 40 * k);
        }
    }

    private static void allFullAtOnce() {
        Script s = FullHouse.build(CHECKS, "FULL of each thing, in one house");
        s.text("1 0,0 1,1").due(-4, "stroke", 0).text("paper 1").due(-4, "node").due(-4, "fill", 0, 15, 15, 3, 1);
        s.due(-4, "mark", 5, 5);
        s.due(-4, "bone", 0, 1, 0, 1).due(-4, "key", 0, 1, 1).due(-4, "reach", 0, 1, 0, 0);
        s.due(-4, "camera", 1, 0, 0, 64);
        s.due(-4, "stretch", 0, 2, 1).due(-4, "erase", 0, 20, 15, 0);
        for (int k = 1; k <= 80; k++) {
            s.due(20 * k, "feed", 0, 0, 0, 0, 0);
        }
        s.due(-4, "feed", 0, 0, 0, 0, 0);
        int[] due = {10, 6, 10, 10, 8, 0, 4, 4, 8, 1600};
        for (int what = 0; what < 10; what++) {
            if (what != 5) {
                s.due(due[what], "count", what);
            }
        }
    }

    private static void theLastCall() {
        for (int last = 0; last < 6; last++) {
            Script s = on("What it is: at most 512 calls after it has been made");
            s.text("1 10,10 20,10 20,20 10,20 10,10").due(0, "stroke", 0).text("0*9").due(9, "sheet", 0);
            s.text("layer 0 0").due(0, "node");
            while (s.calls() < Script.CALLS - 1) {
                s.due(s.calls() % 2 == 0 ? 40 : 0, s.calls() % 2 == 0 ? "drawn" : "flicker", 0, 1 + s.calls() % 7);
            }
            switch (last) {
                case 0: s.due(81, "fill", 0, 15, 15, 0, 3); break;
                case 1: s.due(32, "written", 0); break;
                case 2: s.due(40, "drawn", 0, 8); break;
                case 3: s.same("film", 0, 0, 7); break;
                case 4: s.due(20, "feed", 1, 2, 3, 4, 5); break;
                default: s.due(-3, "played", 0, 0, 0); break;
            }
            CHECKS.due("calls", Script.CALLS, s.calls());
        }
    }
}
