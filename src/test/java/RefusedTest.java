import java.util.ArrayList;
import java.util.List;
import java.util.function.Consumer;

/** A call that is refused changes nothing, for each call of the face: in a house in which all is there, and full. */
public final class RefusedTest {
    private static final Checks CHECKS = new Checks();
    private static final List<List<Integer>> UNTOUCHED = new ArrayList<>();

    public static void main(String[] args) {
        for (int reading = 0; reading < FullHouse.READINGS; reading++) {
            UNTOUCHED.add(FullHouse.read(FullHouse.build(CHECKS, "untouched"), reading));
        }
        drawings();
        sheet();
        between();
        puppet();
        lips();
        camera();
        pictures();
        tracks();
        CHECKS.end();
    }

    private static void refused(String name, Consumer<Script> calls) {
        for (int reading = 0; reading < FullHouse.READINGS; reading++) {
            Script s = FullHouse.build(CHECKS, "refused " + name);
            calls.accept(s);
            List<Integer> now = FullHouse.read(s, reading);
            CHECKS.due("nothing changed by a refused " + name + ", reading " + reading, UNTOUCHED.get(reading).toString(), now.toString());
        }
    }

    private static int[] with(int... values) {
        return values;
    }

    private static void drawings() {
        refused("stroke", s -> s.text("1 0,0 1,1").due(-4, "stroke", 0).wrong(0, "x", "stroke", 0).wrong(8, "1 0,0 1,", "stroke", 1)
            .wrong(10, "1 0,0 1,1 1,1", "stroke", 1).text("1 0,0 1,1").due(-1, "stroke", 16).text("1 0,0 1,1").due(-1, "stroke", -1));
        refused("take", s -> s.outside(-1, "take", with(0, 0), 0, 15, 0, 7).due(-1, "take", 2, 0).due(-1, "take", 1, 2));
        refused("written", s -> s.outside(-1, "written", with(0), 0, 15));
        refused("fit", s -> s.outside(-1, "fit", with(0, 0, 20), 0, 15, 0, 7, 0, 20).due(-1, "fit", 1, 2, 0));
        refused("erase", s -> s.outside(-1, "erase", with(0, 15, 15, 10), 0, 15, 0, 47, 0, 31, 0, 10).due(-4, "erase", 0, 20, 15, 0)
            .due(-4, "erase", 0, 15, 20, 2));
        refused("meets", s -> s.outside(-1, "meets", with(0, 0, 1), 0, 15, 0, 7, 0, 7).due(-1, "meets", 0, 3, 3));
        refused("area", s -> s.outside(-1000000, "area", with(0, 0), 0, 15, 0, 7));
        refused("fill", s -> s.outside(-1, "fill", with(0, 15, 15, 8, 1), 0, 15, 0, 47, 0, 31, 0, 8, 1, 15).due(-4, "fill", 0, 15, 15, 3, 9)
            .due(-5, "fill", 1, 30, 5, 0, 9).due(0, "fill", 1, 10, 11, 0, 9));
        refused("unfill", s -> s.outside(-1, "unfill", with(0, 0), 0, 15, 0, 5).due(-1, "unfill", 1, 0));
        refused("region", s -> s.outside(-1, "region", with(0, 0), 0, 15, 0, 5));
        refused("paint", s -> s.outside(-1, "paint", with(0, 0, 0), 0, 15, 0, 47, 0, 31));
        refused("colour", s -> s.outside(-1, "colour", with(1, 2, 3), 0, 3, 1, 15, 0, 16777215));
    }

    private static void sheet() {
        refused("sheet", s -> s.text("5").due(-1, "sheet", 4).text("5").due(-1, "sheet", -1).wrong(0, "16", "sheet", 0)
            .wrong(10, "5*99 5*21 5", "sheet", 1).wrong(0, "(5*7)*20", "sheet", 0).wrong(2, "5 ", "sheet", 1));
        refused("shown", s -> s.outside(-1, "shown", with(0, 0), 0, 3, 0, 119));
        refused("stretch", s -> s.outside(-1, "stretch", with(1, 2, 1), 0, 3, 1, 20, 1, 20).due(-4, "stretch", 0, 2, 1)
            .due(-4, "stretch", 0, 20, 19).due(-4, "stretch", 1, 20, 1));
        refused("told", s -> s.outside(-1, "told", with(0), 0, 3));
    }

    private static void between() {
        refused("mark", s -> s.outside(-1, "mark", with(6, 6), 0, 7, 0, 7).due(-3, "mark", 0, 6).due(-3, "mark", 6, 0).due(-4, "mark", 6, 6));
        refused("match", s -> s.outside(-1, "match", with(1, 1), 0, 15, 0, 15));
        refused("partner", s -> s.outside(-1, "partner", with(0), 0, 7));
        refused("tween", s -> s.outside(-1, "tween", with(0, 1, 1, 24, 2), 0, 15, 0, 15, 0, 24, 1, 24, 0, 15).due(-1, "tween", 0, 1, 1, 2, 0)
            .due(-1, "tween", 0, 1, 1, 2, 1).due(-1, "tween", 0, 1, 3, 2, 2));
    }

    private static void puppet() {
        refused("bone", s -> s.outside(-1, "bone", with(9, 1, 0, 31), 0, 9, 0, 40, 0, 31, 0, 31).due(-4, "bone", 9, 1, 0, 31)
            .due(-1, "bone", 9, 1, 5, 4));
        refused("pivot", s -> s.outside(-1, "pivot", with(0, 0), -400, 400, -400, 400));
        refused("key", s -> s.outside(-1, "key", with(5, 50, 20), 0, 9, 0, 119, 5, 31).due(-4, "key", 0, 50, 20));
        refused("angle", s -> s.outside(-1, "angle", with(0, 0), 0, 9, 0, 119));
        refused("at", s -> s.outside(-100000, "at", with(0, 0, 0), 0, 9, 0, 119, 0, 1));
        refused("reach", s -> s.outside(-1, "reach", with(9, 50, 0, 0), 0, 9, 0, 119, -400, 400, -400, 400).due(-4, "reach", 0, 50, 0, 0)
            .due(-4, "reach", 1, 50, 0, 0).due(-4, "reach", 2, 119, 0, 0));
        refused("swing", s -> s.outside(-1000000000, "swing", with(0, 0, 0, 0), 0, 9, 0, 119, 0, 16, 0, 16));
    }

    private static void lips() {
        refused("language", s -> s.wrong(0, "", "language").wrong(6, "z=5 y=8", "language").wrong(4, "z=5 ", "language"));
        refused("letter", s -> s.outside(-1, "letter", with(0), 0, 25));
        refused("speech", s -> s.wrong(0, "", "speech").wrong(3, "b2 ", "speech").wrong(4, "b99 b22", "speech"));
        refused("mouth", s -> s.outside(-1, "mouth", with(0, 0), 0, 3, 0, 2));
        refused("blink", s -> s.due(-1, "blink", 0, -1).due(-1, "blink", 0, 10000));
    }

    private static void camera() {
        refused("camera", s -> s.outside(-1, "camera", with(0, 0, 0, 64), 0, 119, -400, 400, -400, 400, 16, 256).due(-4, "camera", 1, 0, 0, 64)
            .due(-1, "camera", 0, 401, 0, 0).due(-1, "camera", 0, 0, -401, 0).due(8, "camera", 1, 0, 0, 0));
        refused("depth", s -> s.outside(-1, "depth", with(1, 64), 0, 3, 16, 1024));
        refused("seen", s -> s.outside(-1000000, "seen", with(0, 0, 0, 0, 0), 0, 3, -400, 400, -400, 400, 0, 119, 0, 1));
        refused("cutOff", s -> s.outside(-1, "cutOff", with(0, 0, 119), 0, 3, 0, 119, 0, 119).due(-1, "cutOff", 0, 1, 0));
        refused("wiggle", s -> s.due(-1, "wiggle", -1, 9, 1, 3).due(-1, "wiggle", 4, 9, 1, 3).due(-1, "wiggle", 1, 9, 25, 3)
            .due(-1, "wiggle", 1, 9, -1, 3).due(-1, "wiggle", 1, 9, 1, 4).due(-1, "wiggle", 1, 9, 0, 4).due(-1, "wiggle", 1, 9, 0, -1));
    }

    private static void pictures() {
        refused("node", s -> s.text("paper 9").due(-4, "node").wrong(5, "blur 10", "node").wrong(0, "x", "node").wrong(5, "paper", "node")
            .wrong(10, "fade 9 9 3", "node").text("sparks 1 1 1 1 1").due(-4, "node"));
        refused("sample", s -> s.outside(-1, "sample", with(2, 0, 0, 0), 0, 9, 0, 119, 0, 47, 0, 31));
        refused("drawn", s -> s.outside(-1, "drawn", with(0, 0), 0, 9, 0, 119));
        refused("film", s -> s.outside(-1, "film", with(0, 0, 0), 0, 9, 0, 0, 0, 7).due(-1, "film", 0, 0, 8).due(-1, "film", 0, 5, 4));
        refused("played", s -> s.outside(-3, "played", with(0, 0, 0), 0, 7, 0, 47, 0, 31));
        refused("flicker", s -> s.outside(-1, "flicker", with(0, 1), 0, 9, 1, 118));
    }

    private static void tracks() {
        refused("track", s -> s.text("5").due(-1, "track", 3, 0).text("5").due(-1, "track", 0, 1000).wrong(2, "5 101", "track", 0, 0)
            .wrong(200, Checks.repeat("5", 101), "track", 1, 9));
        refused("count", s -> s.outside(-1, "count", with(0), 0, 9));
        refused("out", s -> s.due(-1, "out", -1).due(-1, "out", Integer.MAX_VALUE));
        refused("end", s -> s.due(-1, "end", 1).due(-1, "end", -1));
        refused("feed", s -> {
            for (int k = 1; k <= 80; k++) {
                s.due(20 * k, "feed", k, k, k, k, k);
            }
            s.due(-4, "feed", 0, 0, 0, 0, 0).due(1600, "count", 9).due(0, "end", 0);
        });
    }
}
