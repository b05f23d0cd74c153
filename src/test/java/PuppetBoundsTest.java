/** Promises 26 to 32 and part VI of the terms, at their bounds: a test for each sentence that names one. */
public final class PuppetBoundsTest {
    private static final Checks CHECKS = new Checks();

    public static void main(String[] args) {
        bonesAreNumberedFromNought();
        theFirstBoneHasNoParent();
        boneRefuses();
        tenBones();
        pivotsAtTheBounds();
        pivotRefuses();
        keysTellHowMany();
        keysInPlaceOfOne();
        sixKeys();
        keyRefuses();
        anglesWithoutKeys();
        anglesAheadAndBehind();
        anglesBetweenKeys();
        anglesAreRoundedUp();
        angleRefuses();
        endsOfNoLength();
        directionsAreModThirtyTwo();
        endsOfALongChain();
        endsAreRoundedBoneByBone();
        atRefuses();
        reachesOfOneTwoAndThreeBones();
        reachesToTheBounds();
        reachesWithinLowAndHigh();
        reachesTheLeastRow();
        reachesAsTheOthersAre();
        reachIsFullAndDoesNothing();
        reachInPlaceOfKeys();
        reachRefuses();
        swingsAtFrameNought();
        swingsAtTheBounds();
        swingsBelowNought();
        swingRefuses();
        CHECKS.end();
    }

    private static Script on(String sentence) {
        return new Script(CHECKS, sentence);
    }

    private static void bonesAreNumberedFromNought() {
        Script s = on("Promise 26: a bone comes: its number");
        s.due(0, "bone", -1, 40, 0, 31).due(1, "bone", 0, 0, 31, 31).due(2, "bone", 0, 1, 0, 0);
        s.due(3, "bone", 2, 1, 5, 6);
        s.due(4, "count", 2);
    }

    private static void theFirstBoneHasNoParent() {
        Script s = on("Promise 26: PARENT is -1 of the first");
        s.due(-1, "bone", 0, 1, 0, 1).due(-1, "bone", -2, 1, 0, 1).due(-1, "bone", 1, 1, 0, 1).due(0, "count", 2);
        s.due(0, "bone", -1, 1, 0, 1).due(-1, "bone", -1, 1, 0, 1).due(-1, "bone", 1, 1, 0, 1);
        s.due(1, "bone", 0, 1, 0, 1);
        s.due(-1, "bone", 2, 1, 0, 1).due(-1, "bone", -1, 1, 0, 1).due(2, "bone", 1, 1, 0, 1).due(3, "count", 2);
    }

    private static void boneRefuses() {
        Script s = on("Promise 26: NONE if one can't be");
        s.outside(-1, "bone", Script.with(-1, 40, 0, 31), -1, -1, 0, 40, 0, 31, 0, 31).due(-1, "bone", -1, 1, 5, 4);
        s.due(0, "count", 2).due(0, "bone", -1, 40, 31, 31);
        s.outside(-1, "bone", Script.with(0, 0, 0, 0), 0, 0, 0, 40, 0, 31, 0, 31);
        s.due(-1, "bone", 0, 0, 1, 0).due(-1, "bone", 0, 0, 31, 30).due(1, "count", 2).due(1, "bone", 0, 0, 0, 0);
    }

    private static void tenBones() {
        Script s = on("Promise 26: FULL");
        s.due(0, "bone", -1, 1, 0, 31);
        for (int k = 1; k < 10; k++) {
            s.due(k, "bone", k - 1, k, 0, 31);
        }
        s.due(-4, "bone", 9, 1, 0, 31).due(-4, "bone", 0, 0, 0, 0).due(10, "count", 2);
        // NONE is told ahead of it
        s.due(-1, "bone", 10, 1, 0, 31).due(-1, "bone", -1, 1, 0, 31).due(-1, "bone", 0, 41, 0, 31);
        s.due(-1, "bone", 0, 1, 3, 2);
        s.due(10, "count", 2);
    }

    private static void pivotsAtTheBounds() {
        Script s = on("Promise 27: PIVOT is x, y, -400 .. 400: 1");
        s.due(0, "bone", -1, 0, 0, 0).due(1, "pivot", -400, 400).due(-400, "at", 0, 0, 0).due(400, "at", 0, 0, 1);
        s.due(1, "pivot", 400, -400).due(400, "at", 0, 119, 0).due(-400, "at", 0, 119, 1).due(1, "pivot", 0, 0);
        s.due(0, "at", 0, 0, 0);
    }

    private static void pivotRefuses() {
        Script s = on("Promise 27: NONE if it can't be");
        s.due(0, "bone", -1, 0, 0, 0).outside(-1, "pivot", Script.with(1, 1), -400, 400, -400, 400);
        s.due(24, "at", 0, 0, 0).due(16, "at", 0, 0, 1);
    }

    private static void keysTellHowMany() {
        Script s = on("Promise 28: a bone's KEY at a FRAME: how many KEYS it has");
        s.due(0, "bone", -1, 1, 3, 9).due(1, "bone", 0, 1, 0, 31).due(1, "key", 0, 0, 3).due(2, "key", 0, 119, 9);
        s.due(1, "key", 1, 0, 31).due(2, "key", 1, 50, 0).due(3, "key", 0, 50, 5).due(3, "angle", 0, 0);
        s.due(9, "angle", 0, 119);
    }

    private static void keysInPlaceOfOne() {
        Script s = on("Promise 28: in place of one there");
        s.due(0, "bone", -1, 1, 0, 31).due(1, "key", 0, 7, 3).due(1, "key", 0, 7, 3).due(1, "key", 0, 7, 31);
        s.due(31, "angle", 0, 7);
        for (int f = 0; f < 5; f++) {
            s.due(f + 2, "key", 0, f, f);
        }
        // though there are six
        s.due(6, "key", 0, 7, 0).due(6, "key", 0, 0, 9).due(6, "key", 0, 4, 8).due(0, "angle", 0, 7);
        s.due(9, "angle", 0, 0);
        s.due(8, "angle", 0, 4);
    }

    private static void sixKeys() {
        Script s = on("Promise 28: FULL");
        s.due(0, "bone", -1, 1, 0, 31).due(1, "bone", 0, 1, 0, 31);
        int[] frames = {60, 119, 0, 30, 90, 1};
        for (int k = 0; k < 6; k++) {
            s.due(k + 1, "key", 0, frames[k], k);
        }
        s.due(-4, "key", 0, 2, 20).due(-4, "key", 0, 118, 20).due(-4, "key", 0, 59, 0).due(1, "key", 1, 2, 20);
        for (int k = 0; k < 6; k++) {
            s.due(k, "angle", 0, frames[k]);
        }
        // NONE is told ahead of it
        s.due(-1, "key", 0, 2, 32).due(-1, "key", 0, 120, 0).due(5, "angle", 0, 2);
    }

    private static void keyRefuses() {
        Script s = on("Promise 28: NONE if one can't be: an ANGLE, LOW .. HIGH");
        s.due(-1, "key", 0, 0, 0).due(0, "bone", -1, 1, 5, 9);
        s.outside(-1, "key", Script.with(0, 0, 5), 0, 0, 0, 119, 5, 9);
        s.due(5, "angle", 0, 0).due(1, "key", 0, 0, 9).due(2, "key", 0, 119, 5).due(-1, "key", 0, 0, 0);
        s.due(-1, "key", 0, 0, 31);
    }

    private static void anglesWithoutKeys() {
        Script s = on("Part VI: LOW without KEYS");
        s.due(0, "bone", -1, 1, 7, 31).due(1, "bone", 0, 1, 31, 31).due(7, "angle", 0, 0).due(7, "angle", 0, 119);
        s.due(31, "angle", 1, 60).due(1, "key", 1, 0, 31).due(7, "angle", 0, 60);
    }

    private static void anglesAheadAndBehind() {
        Script s = on("Part VI: at a FRAME ahead of all KEYS the first one's, behind all the last one's");
        s.due(0, "bone", -1, 1, 0, 31).due(1, "key", 0, 60, 20).due(20, "angle", 0, 0).due(20, "angle", 0, 60);
        s.due(20, "angle", 0, 119);
        s.due(2, "key", 0, 50, 10).due(10, "angle", 0, 0).due(10, "angle", 0, 49).due(10, "angle", 0, 50);
        s.due(11, "angle", 0, 51);
        s.due(19, "angle", 0, 59).due(20, "angle", 0, 61);
    }

    private static void anglesBetweenKeys() {
        Script s = on("Part VI: between two that are neighbours");
        s.due(0, "bone", -1, 1, 0, 31).due(1, "key", 0, 0, 0).due(2, "key", 0, 119, 31).due(0, "angle", 0, 1);
        s.due(31, "angle", 0, 118);
        s.due(16, "angle", 0, 60).due(15, "angle", 0, 59).due(3, "key", 0, 60, 0).due(0, "angle", 0, 30);
        s.due(1, "angle", 0, 61);
        s.due(30, "angle", 0, 118).due(30, "angle", 0, 117).due(29, "angle", 0, 116);
        // keys at FRAMES next to each other leave nothing between
        s.due(4, "key", 0, 61, 31).due(0, "angle", 0, 60).due(31, "angle", 0, 61).due(31, "angle", 0, 62);
    }

    private static void anglesAreRoundedUp() {
        Script s = on("Part VI: A + ROUND of (B - A) * (f - f0) / (f1 - f0), a half upwards");
        s.due(0, "bone", -1, 1, 0, 31).due(1, "key", 0, 0, 10).due(2, "key", 0, 2, 11).due(11, "angle", 0, 1);
        s.due(3, "key", 0, 4, 10).due(11, "angle", 0, 3).due(4, "key", 0, 8, 4).due(9, "angle", 0, 5);
        s.due(7, "angle", 0, 6);
        // -1.5, -3, -4.5: ROUNDED up to -1, -3, -4
        s.due(6, "angle", 0, 7);
    }

    private static void angleRefuses() {
        Script s = on("Promise 29: NONE if there are none such");
        s.due(-1, "angle", 0, 0).due(0, "bone", -1, 1, 5, 9).outside(-1, "angle", Script.with(0, 0), 0, 0, 0, 119);
        s.due(5, "angle", 0, 119);
    }

    private static void endsOfNoLength() {
        Script s = on("Part VI: a LENGTH 0 .. 40");
        s.due(0, "bone", -1, 0, 0, 31).due(1, "bone", 0, 40, 0, 31).due(1, "key", 0, 0, 5).due(24, "at", 0, 0, 0);
        s.due(16, "at", 0, 0, 1);
        s.due(1, "key", 1, 0, 3).due(24, "at", 1, 0, 0).due(56, "at", 1, 0, 1).due(1, "key", 1, 0, 11);
        s.due(-16, "at", 1, 0, 0);
        s.due(16, "at", 1, 0, 1).due(1, "key", 1, 0, 19).due(24, "at", 1, 0, 0).due(-24, "at", 1, 0, 1);
        s.due(1, "key", 1, 0, 27);
        s.due(64, "at", 1, 0, 0).due(16, "at", 1, 0, 1);
    }

    private static void directionsAreModThirtyTwo() {
        Script s = on("Part VI: DIRECTION: the sum of its and all its parents' ANGLES, mod 32");
        s.due(0, "bone", -1, 0, 31, 31).due(1, "bone", 0, 40, 1, 9).due(64, "at", 1, 0, 0).due(16, "at", 1, 0, 1);
        s.due(1, "key", 1, 0, 9).due(24, "at", 1, 0, 0).due(56, "at", 1, 0, 1);
        s.due(2, "bone", 1, 40, 24, 24).due(24 + 40, "at", 2, 0, 0).due(56, "at", 2, 0, 1);
    }

    private static void endsOfALongChain() {
        Script s = on("Part VI: THE END of a bone: that of its PARENT and more, of ten bones");
        s.due(1, "pivot", 400, 400).due(0, "bone", -1, 40, 31, 31);
        for (int k = 1; k < 10; k++) {
            s.due(k, "bone", k - 1, 40, k == 1 ? 1 : 0, 31);
        }
        // the first one points a bit up, the others straight on: 1004 / 1024 and -200 / 1024 of 40
        s.due(400 + 39, "at", 0, 0, 0).due(400 - 8, "at", 0, 0, 1).due(439 + 360, "at", 9, 119, 0);
        s.due(392, "at", 9, 119, 1);
        for (int k = 1; k < 10; k++) {
            s.due(1, "key", k, 0, 31);
        }
        for (int k = 0; k < 10; k++) {
            s.same("at", k, 0, 0);
            s.same("at", k, 0, 1);
        }
    }

    private static void endsAreRoundedBoneByBone() {
        Script s = on("Part VI: ROUND of LENGTH * SINE(DIRECTION) / 1024, of each bone");
        // 1 * 724 / 1024 is 0.7: 1 each, so 3 after three; 1 * 392 / 1024 is 0.38: 0
        s.due(0, "bone", -1, 1, 4, 4).due(1, "bone", 0, 1, 0, 0).due(2, "bone", 1, 1, 0, 0).due(27, "at", 2, 0, 0);
        s.due(19, "at", 2, 0, 1);
        s.due(3, "bone", 2, 1, 6, 6).due(27, "at", 3, 0, 0).due(20, "at", 3, 0, 1);
        // below 0: 16 * -946 / 1024 is -14.78, 16 * -392 / 1024 is -6.1
        s.due(4, "bone", 0, 16, 14, 14).due(25 - 15, "at", 4, 0, 0).due(17 - 6, "at", 4, 0, 1);
        s.due(5, "bone", 0, 32, 27, 27);
        s.same("at", 5, 0, 0);
        s.same("at", 5, 0, 1);
    }

    private static void atRefuses() {
        Script s = on("Promise 30: -100000 if there are none such");
        s.due(-100000, "at", 0, 0, 0).due(0, "bone", -1, 1, 0, 0);
        s.outside(-100000, "at", Script.with(0, 0, 0), 0, 0, 0, 119, 0, 1);
        s.due(25, "at", 0, 119, 0).due(16, "at", 0, 119, 1);
    }

    private static void reachesOfOneTwoAndThreeBones() {
        Script s = on("Part VI: of the bone, its PARENT, and that one's PARENT (as far as there are)");
        s.due(0, "bone", -1, 10, 0, 31).due(1, "bone", 0, 10, 0, 31).due(2, "bone", 1, 10, 0, 31);
        s.due(3, "bone", 2, 10, 0, 31);
        s.due(1, "key", 0, 0, 8).due(0, "reach", 3, 0, 54, 26).due(8, "angle", 0, 0).due(2, "key", 1, 1, 0);
        s.due(2, "key", 2, 1, 0);
        s.due(2, "key", 3, 1, 0).due(2, "key", 0, 1, 0);
        s.due(0, "reach", 2, 5, 24, 46).due(3, "key", 0, 5, 0).due(3, "key", 1, 5, 0).due(3, "key", 2, 5, 0);
        s.due(3, "key", 3, 6, 0);
        s.due(0, "reach", 0, 9, 14, 16).due(4, "key", 0, 9, 16).due(4, "key", 1, 9, 0).due(16, "angle", 0, 9);
        s.due(0, "reach", 1, 12, 4, 16).due(5, "key", 0, 12, 16).due(5, "key", 1, 12, 0).due(4, "key", 2, 12, 0);
    }

    private static void reachesToTheBounds() {
        Script s = on("Promise 31: to x, y, -400 .. 400: the squared distance");
        s.due(0, "bone", -1, 0, 0, 0).due(1, "pivot", -400, -400).due(2 * 800 * 800, "reach", 0, 0, 400, 400);
        s.due(800 * 800, "reach", 0, 119, -400, 400).due(0, "reach", 0, 1, -400, -400).due(1, "pivot", 400, 400);
        s.due(2 * 800 * 800, "reach", 0, 0, -400, -400).due(3, "key", 0, 0, 0).due(3, "key", 0, 1, 0);
    }

    private static void reachesWithinLowAndHigh() {
        Script s = on("Part VI: all ANGLES from LOW to HIGH");
        // at 2, the least, THE END is 33, 20
        s.due(0, "bone", -1, 10, 2, 6).due(16, "reach", 0, 0, 33, 16).due(2, "angle", 0, 0);
        s.same("reach", 0, 1, 24, 26);
        s.due(6, "angle", 0, 1).due(1, "bone", 0, 10, 31, 31);
        s.same("reach", 1, 2, 400, -400);
        s.due(31, "angle", 1, 2).due(2, "angle", 0, 2);
    }

    private static void reachesTheLeastRow() {
        Script s = on("Part VI: then the least row of them, the uppermost bone's first");
        // a LENGTH of 0 is as near at all ANGLES
        s.due(0, "bone", -1, 0, 3, 31).due(1, "bone", 0, 0, 4, 31).due(2, "bone", 1, 0, 5, 31).due(1, "key", 0, 0, 9);
        s.due(0, "reach", 2, 0, 24, 16).due(3, "angle", 0, 0).due(4, "angle", 1, 0).due(5, "angle", 2, 0);
        s.due(3, "bone", 2, 10, 0, 31).due(0, "reach", 3, 7, 24, 26).due(4, "angle", 1, 7).due(5, "angle", 2, 7);
        // 3 + 4 + 5 and 28 are a whole turn and 8
        s.due(28, "angle", 3, 7).due(3, "angle", 0, 7);
    }

    private static void reachesAsTheOthersAre() {
        Script s = on("Part VI: the others as they are");
        s.due(0, "bone", -1, 10, 0, 31).due(1, "bone", 0, 10, 0, 31).due(2, "bone", 1, 10, 0, 31);
        s.due(3, "bone", 2, 10, 0, 31);
        // at FRAME 5 bone 0 is halfway: 8
        s.due(1, "key", 0, 0, 0).due(2, "key", 0, 10, 16).due(0, "reach", 3, 5, 24, 56).due(8, "angle", 0, 5);
        s.due(34, "at", 0, 0, 0);
        s.due(24, "at", 3, 5, 0).due(56, "at", 3, 5, 1).due(0, "angle", 0, 0).due(3, "key", 0, 5, 8);
    }

    private static void reachIsFullAndDoesNothing() {
        Script s = on("Promise 31: FULL, and nothing, if one of these bones has 6 KEYS and none there");
        s.due(0, "bone", -1, 10, 0, 31).due(1, "bone", 0, 10, 0, 31).due(2, "bone", 1, 10, 0, 31);
        s.due(3, "bone", 2, 10, 0, 31);
        for (int f = 0; f < 6; f++) {
            s.due(f + 1, "key", 1, f, 5);
        }
        s.due(-4, "reach", 1, 6, 0, 0).due(-4, "reach", 2, 6, 0, 0).due(-4, "reach", 3, 119, 0, 0);
        s.due(1, "key", 0, 60, 1);
        s.due(1, "key", 2, 60, 1).due(1, "key", 3, 60, 1).due(-4, "key", 1, 60, 1).due(5, "angle", 1, 119);
        // bone 0 itself has room, and at FRAME 5 all have
        s.due(100, "reach", 0, 7, 24, 36).due(2, "key", 0, 7, 8);
        s.same("reach", 3, 5, 0, 0);
        s.due(6, "key", 1, 5, 0).due(2, "key", 2, 5, 0).due(2, "key", 3, 5, 0).due(3, "key", 0, 5, 0);
        // NONE is told ahead of it
        s.due(-1, "reach", 3, 120, 0, 0).due(-1, "reach", 3, 6, 401, 0);
    }

    private static void reachInPlaceOfKeys() {
        Script s = on("Promise 31: each bone of these has its ANGLE as a KEY at the FRAME");
        s.due(0, "bone", -1, 10, 0, 31).due(1, "bone", 0, 0, 7, 7);
        for (int f = 0; f < 6; f++) {
            s.due(f + 1, "key", 0, 20 * f, 20);
        }
        s.due(0, "reach", 1, 40, 34, 16).due(0, "angle", 0, 40).due(20, "angle", 0, 20).due(20, "angle", 0, 60);
        s.due(7, "angle", 1, 40);
        s.due(6, "key", 0, 40, 0).due(1, "key", 1, 40, 7).due(34, "at", 1, 40, 0).due(10, "angle", 0, 30);
    }

    private static void reachRefuses() {
        Script s = on("Promise 31: NONE if one can't be");
        s.due(-1, "reach", 0, 0, 0, 0).due(0, "bone", -1, 1, 5, 9);
        s.outside(-1, "reach", Script.with(0, 0, 0, 0), 0, 0, 0, 119, -400, 400, -400, 400).due(1, "key", 0, 50, 6);
    }

    private static void swingsAtFrameNought() {
        Script s = on("Part VI: p is 256 * its ANGLE at FRAME 0, v is 0");
        s.due(0, "bone", -1, 1, 31, 31).due(1, "bone", 0, 1, 0, 31).due(7936, "swing", 0, 0, 0, 0);
        s.due(7936, "swing", 0, 119, 16, 0);
        s.due(0, "swing", 1, 0, 16, 16).due(1, "key", 1, 1, 5).due(1280, "swing", 1, 0, 16, 16);
        s.due(1280, "swing", 1, 119, 16, 16);
    }

    private static void swingsAtTheBounds() {
        Script s = on("Part VI: STIFF and DAMP, 0 .. 16");
        s.due(0, "bone", -1, 1, 0, 31).due(1, "key", 0, 0, 0).due(2, "key", 0, 1, 31);
        s.due(0, "swing", 0, 119, 0, 0).due(0, "swing", 0, 119, 0, 16).due(7936, "swing", 0, 1, 16, 16);
        s.due(7936, "swing", 0, 119, 16, 16);
        // without DAMP: to it, past it, back: a round of six
        int[] due = {0, 7936, 15872, 15872, 7936, 0, 0, 7936};
        for (int f = 0; f < due.length; f++) {
            s.due(due[f], "swing", 0, f, 16, 0);
        }
        s.due(496, "swing", 0, 1, 1, 0).due(496 + 496 + 465, "swing", 0, 2, 1, 0).due(496 + 465, "swing", 0, 2, 1, 16);
    }

    private static void swingsBelowNought() {
        Script s = on("Part VI: DIV, the greatest whole number not above, of what is below 0");
        s.due(0, "bone", -1, 1, 0, 31).due(1, "key", 0, 0, 1).due(2, "key", 0, 1, 0);
        // -256 * 3 / 16 is -48; then -208 * 3 / 16 is -39, and - DIV(-48 * 5, 16) is 15
        s.due(208, "swing", 0, 1, 3, 5).due(208 - 48 - 39 + 15, "swing", 0, 2, 3, 5);
        // then v is -72, p 136: -136 * 3 / 16 is -25.5: -26; -72 * 5 / 16 is -22.5: -23
        s.due(136 - 72 - 26 + 23, "swing", 0, 3, 3, 5);
        for (int f = 4; f < 120; f += 5) {
            s.same("swing", 0, f, 3, 5);
            s.same("swing", 0, f, 15, 1);
        }
    }

    private static void swingRefuses() {
        Script s = on("Promise 32: -1000000000 if one can't be");
        s.due(-1000000000, "swing", 0, 0, 0, 0).due(0, "bone", -1, 1, 5, 9);
        s.outside(-1000000000, "swing", Script.with(0, 0, 0, 0), 0, 0, 0, 119, 0, 16, 0, 16);
        s.due(1280, "swing", 0, 119, 16, 16);
    }
}
