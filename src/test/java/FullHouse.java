import java.util.ArrayList;
import java.util.List;

/** A house in which there is as much as there may be of each thing, and what can be read of it. */
final class FullHouse {
    /** How many rows of readings there are: all of them on one object would be too many calls. */
    static final int READINGS = 4;

    private FullHouse() {
    }

    static Script build(Checks checks, String sentence) {
        Script s = new Script(checks, sentence);
        drawings(s);
        sheetAndMarks(s);
        puppet(s);
        lipsAndCamera(s);
        nodesAndFilm(s);
        s.text("9 -9").due(2, "track", 0, 5).text(Checks.repeat("1", 100)).due(100, "track", 1, 0);
        return s;
    }

    private static void drawings(Script s) {
        // short by three at its left side; behind it seven small ones
        s.text("1 10,10 20,10 20,20 10,20 10,13").due(0, "stroke", 0);
        for (int k = 1; k < 8; k++) {
            s.text((k + 1) + " 0,2" + k + " 5,2" + k).due(k, "stroke", 0);
        }
        for (int k = 1; k <= 6; k++) {
            s.due(81, "fill", 0, 10 + k, 15, k < 3 ? 3 : k, k);
        }
        s.text("1 10,11 20,20").due(0, "stroke", 1).text("2 0,30 9,30").due(1, "stroke", 1);
        s.due(2236962, "colour", 1, 2, 777);
    }

    private static void sheetAndMarks(Script s) {
        s.text("0*99 1*21").due(120, "sheet", 0).text("1 - 0*5").due(7, "sheet", 1);
        s.due(1, "mark", 0, 1).due(2, "mark", 1, 0).due(3, "mark", 2, 2).due(4, "mark", 3, 3);
        s.same("match", 0, 1);
    }

    private static void puppet(Script s) {
        for (int k = 0; k < 10; k++) {
            s.due(k, "bone", k - 1, k + 3, k, 31);
        }
        for (int k = 0; k < 6; k++) {
            s.due(k + 1, "key", 0, 20 * k, 5 * k);
        }
        s.due(1, "key", 3, 10, 9).due(2, "key", 3, 30, 19).due(1, "pivot", 30, 20);
    }

    private static void lipsAndCamera(Script s) {
        s.text("a=1 b=2 cd=7").due(3, "language").text("a9 b9 c99 .3").due(4, "speech");
        for (int k = 0; k < 8; k++) {
            s.due(k + 1, "camera", 17 * k, k - 3, 3 - k, 60 + 2 * k);
        }
        s.due(64, "depth", 1, 128).due(1, "wiggle", 1, 5, 2, 1);
    }

    private static void nodesAndFilm(Script s) {
        String[] nodes = {"layer 0 0", "layer 1 1", "paper 5", "over 0 2", "shift 1 5 5", "matte 0 2", "fade 0 2 0 9", "blur 3",
            "sparks 3 24 16 20 9", "over 8 7"};
        for (int k = 0; k < nodes.length; k++) {
            s.text(nodes[k]).due(k, "node");
        }
        s.same("film", 9, 0, 7);
    }

    /** What can be read of it, without a change to it; the first reading begins with THE OUT. */
    static List<Integer> read(Script s, int reading) {
        List<Integer> all = new ArrayList<>();
        switch (reading) {
            case 0: readTexts(s, all); break;
            case 1: readDrawings(s, all); break;
            case 2: readMoves(s, all); break;
            default: readPictures(s, all); break;
        }
        return all;
    }

    private static void readTexts(Script s, List<Integer> all) {
        for (int what = 0; what < 10; what++) {
            all.add(s.same("count", what));
        }
        for (int k = 0; k < 12; k++) {
            all.add(s.same("out", 7 * k));
        }
        for (int d = 0; d < 3; d++) {
            int many = s.same("written", d);
            for (int k = 0; k <= many; k++) {
                all.add(s.same("out", k));
            }
        }
        for (int l = 0; l < 4; l++) {
            int many = s.same("told", l);
            for (int k = 0; k <= many; k++) {
                all.add(s.same("out", k));
            }
        }
    }

    private static void readDrawings(Script s, List<Integer> all) {
        for (int k = 0; k < 8; k++) {
            all.add(s.same("region", 0, k));
            all.add(s.same("area", 0, k));
            all.add(s.same("meets", 0, 0, k));
            all.add(s.same("partner", k));
            all.add(s.same("paint", 0, 8 + k, 15));
            all.add(s.same("paint", 1, 8 + k, 9 + k));
        }
        for (int k = 0; k < 26; k++) {
            all.add(s.same("letter", k));
        }
        for (int k = 0; k < 5; k++) {
            for (int what = 0; what < 3; what++) {
                all.add(s.same("mouth", k, what));
            }
        }
        for (int k = 0; k < 12; k++) {
            all.add(s.same("mix", k));
            all.add(s.same("mix", 95 + k));
        }
        all.add(s.same("match", 0, 1));
        all.add(s.same("partner", 0));
    }

    private static void readMoves(Script s, List<Integer> all) {
        for (int b = 0; b < 10; b++) {
            for (int frame = 0; frame < 120; frame += 29) {
                all.add(s.same("angle", b, frame));
            }
            all.add(s.same("at", b, 35, 0));
            all.add(s.same("at", b, 35, 1));
            all.add(s.same("swing", b, 50, 3, 2));
        }
        for (int l = 0; l < 4; l++) {
            for (int frame = 0; frame < 120; frame += 17) {
                all.add(s.same("seen", l, 40, 30, frame, 0));
                all.add(s.same("seen", l, 40, 30, frame, 1));
            }
            all.add(s.same("cutOff", l, 0, 119));
        }
    }

    private static void readPictures(Script s, List<Integer> all) {
        for (int n = 0; n < 10; n++) {
            all.add(s.same("drawn", n, 3));
            all.add(s.same("drawn", n, 110));
            all.add(s.same("sample", n, 4, 15, 15));
            all.add(s.same("flicker", n, 2));
        }
        for (int k = 0; k < 9; k++) {
            all.add(s.same("played", k, 24, 16));
            all.add(s.same("played", k, 15, 15));
            all.add(s.same("sample", 1, 0, 10 + k, 11 + k));
        }
    }
}
