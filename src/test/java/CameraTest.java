/** Promises 38 to 42: camera, depth, seen, cutOff, wiggle. */
public final class CameraTest {
    private static final Checks CHECKS = new Checks();

    public static void main(String[] args) {
        keys();
        depthsAndPlaces();
        places();
        cutOffs();
        wiggles();
        wiggledFills();
        CHECKS.end();
    }

    private static void keys() {
        CartoonHouse house = new CartoonHouse();
        CHECKS.due("camera", 1, house.camera(10, 400, -400, 16));
        CHECKS.due("in place of one", 1, house.camera(10, -400, 400, 256));
        CHECKS.due("none there to go", 1, house.camera(11, 0, 0, 0));
        CHECKS.due("it goes", 0, house.camera(10, 400, 400, 0));
        CHECKS.due("x must be right all the same", -1, house.camera(10, 401, 0, 0));
        CHECKS.due("y must be right all the same", -1, house.camera(10, 0, -401, 0));
        CHECKS.due("no frame", -1, house.camera(120, 0, 0, 64));
        CHECKS.due("no frame", -1, house.camera(-1, 0, 0, 64));
        CHECKS.due("x", -1, house.camera(0, -401, 0, 64));
        CHECKS.due("y", -1, house.camera(0, 0, 401, 64));
        CHECKS.due("zoom", -1, house.camera(0, 0, 0, 15));
        CHECKS.due("zoom", -1, house.camera(0, 0, 0, 257));
        CHECKS.due("zoom", -1, house.camera(0, 0, 0, -1));
        for (int k = 0; k < 8; k++) {
            CHECKS.due("camera", k + 1, house.camera(119 - 7 * k, k, -k, 64));
        }
        CHECKS.due("full", -4, house.camera(0, 0, 0, 64));
        CHECKS.due("none ahead of full", -1, house.camera(0, 0, 0, 300));
        CHECKS.due("in place of one", 8, house.camera(119, 0, 0, 64));
        CHECKS.due("zoom 0 is no more", 8, house.camera(0, 0, 0, 0));
        CHECKS.due("count(8)", 8, house.count(8));
        CHECKS.due("seen by a key's x", 24 - 6, house.seen(0, 24, 16, 77, 0));
        CHECKS.due("one goes", 7, house.camera(112, 0, 0, 0));
        CHECKS.due("the others stay", 24 - 2, house.seen(0, 24, 16, 105, 0));
        CHECKS.due("the others stay", 16 + 2, house.seen(0, 24, 16, 105, 1));
        CHECKS.due("between neighbours now", 24 - 1, house.seen(0, 24, 16, 112, 0));
        CHECKS.due("the last one", 24, house.seen(0, 24, 16, 119, 0));
        CHECKS.due("camera", 8, house.camera(0, 0, 0, 64));
    }

    private static void depthsAndPlaces() {
        CartoonHouse house = new CartoonHouse();
        CHECKS.due("without keys", 400, house.seen(0, 400, -400, 0, 0));
        CHECKS.due("without keys", -400, house.seen(0, 400, -400, 0, 1));
        CHECKS.due("depth", 64, house.depth(0, 16));
        CHECKS.due("depth", 16, house.depth(0, 1024));
        CHECKS.due("depth", -1, house.depth(0, 15));
        CHECKS.due("depth", -1, house.depth(0, 1025));
        CHECKS.due("depth", -1, house.depth(4, 64));
        CHECKS.due("depth", -1, house.depth(-1, 64));
        CHECKS.due("it stays", 1024, house.depth(0, 128));
        CHECKS.due("another layer", 64, house.depth(1, 32));
        house.camera(0, 10, -6, 128);
        house.camera(4, 20, 6, 64);
        // at 0: ZOOM 2 at depth 64; the camera's way counts half at depth 128, twice at 32
        CHECKS.due("seen", 24 + 2 * (30 - 24) - 2 * 10, house.seen(2, 30, 20, 0, 0));
        CHECKS.due("seen", 16 + 2 * (20 - 16) + 2 * 6, house.seen(2, 30, 20, 0, 1));
        CHECKS.due("seen far", 24 + 2 * (30 - 24) - 10, house.seen(0, 30, 20, 0, 0));
        CHECKS.due("seen near", 24 + 2 * (30 - 24) - 40, house.seen(1, 30, 20, 0, 0));
        // at 1: X 13 (12.5), Y -3, ZOOM 112
        CHECKS.due("seen between keys", 24 + (int) Math.floor((6 - 13) * 112 / 64.0 + 0.5),
                house.seen(2, 30, 20, 1, 0));
        CHECKS.due("seen between keys", 16 + (int) Math.floor((4 + 3) * 112 / 64.0 + 0.5),
                house.seen(2, 30, 20, 1, 1));
        CHECKS.due("seen behind keys", 24 + 6 - 20, house.seen(2, 30, 20, 119, 0));
        CHECKS.due("no layer", -1000000, house.seen(4, 0, 0, 0, 0));
        CHECKS.due("no place", -1000000, house.seen(0, 401, 0, 0, 0));
        CHECKS.due("no place", -1000000, house.seen(0, 0, -401, 0, 0));
        CHECKS.due("no frame", -1000000, house.seen(0, 0, 0, 120, 0));
        CHECKS.due("no axis", -1000000, house.seen(0, 0, 0, 0, 2));
        CHECKS.due("no axis", -1000000, house.seen(0, 0, 0, 0, -1));
    }

    private static void places() {
        CartoonHouse house = new CartoonHouse();
        house.depth(3, 1000);
        house.camera(5, -399, 398, 255);
        int[] all = {-400, -77, 0, 23, 24, 25, 399, 400};
        for (int x : all) {
            for (int y : all) {
                long away = ((x - 24) * 1000L + 64 * 399) * 255;
                CHECKS.due("seen x", (int) (24 + Math.floorDiv(2 * away + 64000, 128000L)), house.seen(3, x, y, 5, 0));
                away = ((y - 16) * 1000L - 64 * 398) * 255;
                CHECKS.due("seen y", (int) (16 + Math.floorDiv(2 * away + 64000, 128000L)), house.seen(3, x, y, 5, 1));
            }
        }
    }

    private static void cutOffs() {
        CartoonHouse house = new CartoonHouse();
        CHECKS.due("as it stands", -1, house.cutOff(0, 0, 119));
        house.camera(0, 0, 0, 64);
        house.camera(20, 20, 0, 64);
        // X goes up by one a FRAME: at FRAME 1 the right column is at 48
        CHECKS.due("cutOff", 1, house.cutOff(0, 0, 119));
        CHECKS.due("cutOff", -1, house.cutOff(0, 0, 0));
        CHECKS.due("cutOff", 7, house.cutOff(0, 7, 9));
        CHECKS.due("from above to", -1, house.cutOff(0, 9, 7));
        house.depth(1, 1024);
        // far away a way of 8 counts a half
        CHECKS.due("far away", 8, house.cutOff(1, 0, 119));
        CHECKS.due("no layer", -1, house.cutOff(4, 0, 119));
        CHECKS.due("no frame", -1, house.cutOff(0, -1, 119));
        CHECKS.due("no frame", -1, house.cutOff(0, 0, 120));
        CartoonHouse other = new CartoonHouse();
        other.camera(50, 0, 0, 65);
        CHECKS.due("nearer: never", -1, other.cutOff(0, 0, 119));
        other.camera(60, 0, 0, 63);
        // ZOOM is 64 up to FRAME 57 (-1.4 ROUNDS to -1), 63 from 58 on (-1.6): 24 * 64 / 63 is 24.38, still right
        CHECKS.due("farther, by less than a half", -1, other.cutOff(0, 0, 119));
        other.camera(60, 0, 0, 60);
        // 24 * 64 / 62 is 24.77, at 63 not yet: ZOOM is 62 first at FRAME 55 (-2.5 ROUNDS to -2: 63), 56 (-3)
        CHECKS.due("farther, by more than a half", 56, other.cutOff(0, 0, 119));
        CartoonHouse up = new CartoonHouse();
        up.camera(30, 0, -1, 64);
        CHECKS.due("up", 0, up.cutOff(2, 0, 119));
        up.camera(30, 0, 1, 64);
        CHECKS.due("down", 3, up.cutOff(2, 3, 119));
        up.camera(30, -1, 0, 64);
        CHECKS.due("left", 3, up.cutOff(2, 3, 3));
    }

    private static int hash(int h, int a, int b, int c, int d) {
        for (int it : new int[] {a, b, c, d}) {
            h = (h ^ it) * 16777619;
            h = h ^ (h >>> 15);
        }
        return h;
    }

    private static void wiggles() {
        CartoonHouse house = new CartoonHouse();
        CHECKS.due("wiggle", 1, house.wiggle(0, 5, 0, 0));
        CHECKS.due("wiggle", -1, house.wiggle(0, 5, 0, 4));
        CHECKS.due("wiggle", -1, house.wiggle(0, 5, 25, 3));
        CHECKS.due("wiggle", -1, house.wiggle(0, 5, -1, 3));
        CHECKS.due("wiggle", -1, house.wiggle(0, 5, 1, -1));
        CHECKS.due("wiggle", -1, house.wiggle(4, 5, 1, 1));
        CHECKS.due("wiggle", -1, house.wiggle(-1, 5, 1, 1));
        Checks.stroke(house, 0, "1 10,10 30,20");
        Checks.stroke(house, 0, "2 0,31 47,0 47,31");
        Checks.sheet(house, 0, "0*20");
        Checks.sheet(house, 1, "1*20");
        Checks.node(house, "layer 0 0");
        Checks.node(house, "layer 1 0");
        int[][] points = {{10, 10, 30, 20}, {0, 31, 47, 0, 47, 31}};
        int[] seeds = {77, -5};
        for (int round = 0; round < 2; round++) {
            int every = 3 - round;
            int most = 3 - 2 * round;
            CHECKS.due("wiggle", 1, house.wiggle(0, seeds[round], every, most));
            for (int f = 0; f < 8; f++) {
                CartoonHouse still = new CartoonHouse();
                for (int i = 0; i < points.length; i++) {
                    StringBuilder text = new StringBuilder().append(i + 1);
                    for (int j = 0; j < points[i].length / 2; j++) {
                        int a = (hash(seeds[round], f / every, i, j, 0) >>> 8) % (2 * most + 1) - most;
                        int b = (hash(seeds[round], f / every, i, j, 1) >>> 8) % (2 * most + 1) - most;
                        text.append(' ').append(Math.max(0, Math.min(47, points[i][2 * j] + a)));
                        text.append(',').append(Math.max(0, Math.min(31, points[i][2 * j + 1] + b)));
                    }
                    CHECKS.due("a stroke of these points", i, Checks.stroke(still, 0, text.toString()));
                }
                for (int x = 0; x < 48; x++) {
                    int y = (x * 7 + f) % 32;
                    for (int v = 0; v < 32; v += 1 + y % 3) {
                        int paint = still.paint(0, x, v);
                        CHECKS.due("wiggled", paint == 0 ? -1 : paint * 1118481, house.sample(0, f, x, v));
                    }
                }
            }
        }
        CHECKS.due("the drawing itself does not move", 1, house.paint(0, 10, 10));
        CHECKS.due("nothing on another layer", 0, house.drawn(1, 0));
        house.wiggle(0, 1, 0, 3);
        CHECKS.due("none any more", 1118481, house.sample(0, 0, 10, 10));
    }

    private static void wiggledFills() {
        CartoonHouse house = new CartoonHouse();
        Checks.stroke(house, 0, "1 10,10 20,10 20,20 10,20 10,10");
        CHECKS.due("fill", 81, house.fill(0, 15, 15, 0, 2));
        Checks.sheet(house, 0, "0*99");
        Checks.node(house, "layer 0 0");
        CHECKS.due("drawn", 121, house.drawn(0, 0));
        house.wiggle(0, 9, 1, 0);
        CHECKS.due("MOST 0 does not move it", 121, house.drawn(0, 0));
        house.wiggle(0, 9, 1, 1);
        int open = 0;
        int shut = 0;
        for (int f = 0; f < 60; f++) {
            // the ring's first and last POINT are two that wiggle apart, so it may open
            boolean isFilled = house.sample(0, f, 15, 15) == 2 * 1118481;
            CHECKS.due("as the ring is", isFilled ? 1 : 0, house.drawn(0, f) > 80 ? 1 : 0);
            open += isFilled ? 0 : 1;
            shut += isFilled ? 1 : 0;
        }
        CHECKS.due("some open, some shut", 1, open > 0 && shut > 0 ? 1 : 0);
    }
}
