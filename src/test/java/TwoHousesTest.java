/** Promise 1: a new object is in the state that the terms give, and has nothing in common with another one. */
public final class TwoHousesTest {
    private static final Checks CHECKS = new Checks();

    public static void main(String[] args) {
        aNewOneBesideAFullOne();
        twoTapesAndOuts();
        twoWithOtherThings();
        CHECKS.end();
    }

    private static Script on(String sentence) {
        return new Script(CHECKS, sentence);
    }

    private static void aNewOneBesideAFullOne() {
        for (int reading = 0; reading < FullHouse.READINGS; reading++) {
            Script full = FullHouse.build(CHECKS, "the full one");
            FullHouse.read(on("Promise 1: a new one beside a full one"), reading);
            FullHouse.read(full, reading);
        }
        Script empty = on("Promise 1: a new one beside a full one, all counts");
        FullHouse.build(CHECKS, "the full one");
        for (int what = 0; what < 10; what++) {
            empty.due(0, "count", what);
        }
        empty.due(2236962, "colour", 1, 2, 5).due(64, "depth", 1, 64).due(0, "letter", 2).due(0, "bone", -1, 0, 0, 0);
        empty.due(24, "at", 0, 0, 0).due(0, "mix", 5).due(-1, "out", 0).due(-3, "played", 0, 0, 0).due(0, "end", 0);
    }

    private static void twoTapesAndOuts() {
        Script one = on("Promise 2: THE TAPE of each object, one");
        Script two = on("Promise 2: THE TAPE of each object, two");
        one.text("1 0,0 9,9");
        two.text("2 5,5 6,5 7,7");
        one.due(9, "count", 9);
        two.due(13, "count", 9).due(0, "stroke", 0).due(0, "count", 9);
        one.due(9, "count", 9).due(0, "stroke", 0).due(10, "written", 0);
        two.due(14, "written", 0);
        one.out("1 0,0 9,9\n");
        two.out("2 5,5 6,5 7,7\n");
    }

    private static void twoWithOtherThings() {
        Script one = on("Promise 1: each object has what its own calls gave it, one");
        Script two = on("Promise 1: each object has what its own calls gave it, two");
        one.text("1 10,10 20,10 20,20 10,20 10,10").due(0, "stroke", 0).due(1, "mark", 0, 0).due(0, "bone", -1, 10, 3, 9);
        two.text("2 30,5 40,5 40,9 30,5").due(0, "stroke", 0).due(1, "mark", 0, 1).due(0, "bone", -1, 20, 5, 7);
        one.due(81, "fill", 0, 15, 15, 0, 4).text("0*9").due(9, "sheet", 0).text("layer 0 1").due(0, "node");
        two.text("- 0*3").due(4, "sheet", 0).text("paper 77").due(0, "node").due(1, "wiggle", 0, 4, 1, 2);
        one.due(1118481, "colour", 1, 1, 500).due(1, "pivot", 3, 4).due(1, "key", 0, 5, 8).text("a=4").due(1, "language");
        two.due(1, "pivot", -3, -4).due(1, "camera", 0, 10, 10, 128).text("a5 b6").due(1, "speech").due(64, "depth", 0, 99);
        one.text("a7").due(1, "speech").text("50").due(1, "track", 0, 1).due(0, "match", 0, 0);
        two.text("-60").due(1, "track", 0, 1).due(6158, "film", 0, 2, 2);
        one.due(121, "drawn", 0, 8).due(500, "sample", 0, 8, 20, 20).due(4, "paint", 0, 15, 15).due(50, "mix", 1);
        one.due(8, "angle", 0, 0).due(0, "count", 4).due(4, "mouth", 0, 0).due(0, "count", 8).due(64, "depth", 0, 64);
        two.due(77, "sample", 0, 8, 20, 20).due(5, "angle", 0, 0).due(0, "mouth", 0, 0).due(11, "mouth", 0, 2);
        two.due(77, "played", 0, 0, 0).due(-60, "mix", 1).due(0, "count", 1).due(1, "count", 8).due(-1, "shown", 0, 0);
        one.due(0, "shown", 0, 0).due(0, "partner", 0).due(-3, "played", 0, 0, 0).due(1, "unmark").due(1, "clear");
        two.due(1, "count", 7).due(1, "count", 3).due(-1, "partner", 0).due(1118481, "colour", 1, 1, 1);
    }
}
