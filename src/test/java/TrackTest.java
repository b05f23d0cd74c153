/** Promises 50 to 52: track, mix, count. */
public final class TrackTest {
    private static final Checks CHECKS = new Checks();

    public static void main(String[] args) {
        tracks();
        wrongTracks();
        counts();
        CHECKS.end();
    }

    private static void tracks() {
        CartoonHouse house = new CartoonHouse();
        CHECKS.due("track", 3, Checks.track(house, 0, 10, "100 -100 5"));
        CHECKS.due("track", 4, Checks.track(house, 1, 9, "1 90 -90 7"));
        CHECKS.due("track", 1, Checks.track(house, 2, 999, "-3"));
        int[] due = {0, 1, 127, -128, 12, 0};
        for (int k = 8; k < 14; k++) {
            CHECKS.due("mix " + k, due[k - 8], house.mix(k));
        }
        CHECKS.due("mix", -3, house.mix(999));
        CHECKS.due("mix", 0, house.mix(1000));
        CHECKS.due("mix", 0, house.mix(-1));
        CHECKS.due("mix", 0, house.mix(Integer.MIN_VALUE));
        CHECKS.due("mix", 0, house.mix(Integer.MAX_VALUE));
        CHECKS.due("in place of another one", 2, Checks.track(house, 0, 0, "28 -28"));
        Checks.track(house, 1, 0, "100 -100");
        CHECKS.due("just over", 127, house.mix(0));
        CHECKS.due("just at", -128, house.mix(1));
        CHECKS.due("an old one is gone", 0, house.mix(10));
        CHECKS.due("none", 0, Checks.track(house, 1, 0, ""));
        CHECKS.due("mix", 28, house.mix(0));
        CHECKS.due("a hundred", 100, Checks.track(house, 2, 5, Checks.repeat("-7", 100)));
        CHECKS.due("mix", -7, house.mix(104));
        CHECKS.due("mix", 0, house.mix(105));
        CHECKS.due("no track", -1, Checks.track(house, 3, 0, "1"));
        CHECKS.due("no track", -1, Checks.track(house, -1, 0, "x"));
        CHECKS.due("begin", -1, Checks.track(house, 0, 1000, "1"));
        CHECKS.due("begin", -1, Checks.track(house, 0, -1, "1"));
    }

    private static void wrongTracks() {
        CartoonHouse house = new CartoonHouse();
        Checks.track(house, 0, 3, "50");
        String[] texts = {" ", "1 ", "1  2", "101", "-101", "1,2", "-", "00", "1 x", "1 2\n", "1 -0", "1.5", "+1"};
        int[] places = {0, 2, 2, 0, 0, 1, 1, 1, 2, 3, 3, 1, 0};
        for (int k = 0; k < texts.length; k++) {
            CHECKS.due("track " + texts[k], -1000 - places[k], Checks.track(house, 0, 0, texts[k]));
        }
        CHECKS.due("one too many", -1200, Checks.track(house, 0, 0, Checks.repeat("1", 101)));
        CHECKS.due("one too many that is none", -1200, Checks.track(house, 0, 0, Checks.repeat("1", 100) + " x"));
        CHECKS.due("a blank behind the last", -1200, Checks.track(house, 0, 0, Checks.repeat("1", 100) + " "));
        CHECKS.due("nothing changed", 50, house.mix(3));
        CHECKS.due("nothing changed", 0, house.mix(0));
    }

    private static void counts() {
        CartoonHouse house = new CartoonHouse();
        Checks.stroke(house, 0, "1 10,10 20,10 20,20 10,20 10,10");
        Checks.stroke(house, 15, "1 10,10 20,10 20,20 10,20 10,10");
        Checks.stroke(house, 15, "1 1,1 2,2");
        house.fill(0, 15, 15, 0, 1);
        house.fill(15, 15, 15, 0, 1);
        house.bone(-1, 1, 0, 0);
        Checks.node(house, "paper 1");
        Checks.node(house, "layer 0 0");
        house.film(1, 0, 2);
        Checks.language(house, "a=1");
        Checks.speech(house, "a2 b2");
        house.mark(1, 1);
        house.camera(5, 0, 0, 64);
        house.feed(0, 0, 0, 0, 0);
        int[] due = {3, 2, 1, 2, 3, 42, 2, 1, 1, 20};
        for (int what = 0; what < due.length; what++) {
            CHECKS.due("count " + what, due[what], house.count(what));
        }
        CHECKS.due("count", -1, house.count(10));
        CHECKS.due("count", -1, house.count(-1));
        CHECKS.due("count", -1, house.count(Integer.MIN_VALUE));
    }
}
