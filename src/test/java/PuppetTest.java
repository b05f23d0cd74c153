/** Promises 26 to 32: bone, pivot, key, angle, at, reach, swing. */
public final class PuppetTest {
    private static final Checks CHECKS = new Checks();
    private static final int[] SINES = {0, 200, 392, 569, 724, 851, 946, 1004, 1024, 1004, 946, 851, 724, 569, 392, 200,
        0, -200, -392, -569, -724, -851, -946, -1004, -1024, -1004, -946, -851, -724, -569, -392, -200};

    public static void main(String[] args) {
        bones();
        keysAndAngles();
        ends();
        reaching();
        reachingRefused();
        swinging();
        CHECKS.end();
    }

    private static void bones() {
        CartoonHouse house = new CartoonHouse();
        CHECKS.due("the first has no parent", -1, house.bone(0, 1, 0, 31));
        CHECKS.due("parent -2", -1, house.bone(-2, 1, 0, 31));
        CHECKS.due("length 41", -1, house.bone(-1, 41, 0, 31));
        CHECKS.due("length -1", -1, house.bone(-1, -1, 0, 31));
        CHECKS.due("low -1", -1, house.bone(-1, 1, -1, 31));
        CHECKS.due("high 32", -1, house.bone(-1, 1, 0, 32));
        CHECKS.due("low above high", -1, house.bone(-1, 1, 5, 4));
        CHECKS.due("bone", 0, house.bone(-1, 40, 5, 5));
        CHECKS.due("a second without parent", -1, house.bone(-1, 1, 0, 31));
        CHECKS.due("its own parent", -1, house.bone(1, 1, 0, 31));
        for (int k = 1; k < 10; k++) {
            CHECKS.due("bone", k, house.bone(k - 1, 0, 0, 31));
        }
        CHECKS.due("full", -4, house.bone(9, 1, 0, 31));
        CHECKS.due("none ahead of full", -1, house.bone(10, 1, 0, 31));
        CHECKS.due("none ahead of full", -1, house.bone(0, 1, 3, 2));
        CHECKS.due("count(2)", 10, house.count(2));
        CHECKS.due("pivot", 1, house.pivot(-400, 400));
        CHECKS.due("pivot", -1, house.pivot(-401, 0));
        CHECKS.due("pivot", -1, house.pivot(0, 401));
        CHECKS.due("at", -400 + 22, house.at(0, 0, 0));
        CHECKS.due("at", 400 + 33, house.at(0, 0, 1));
    }

    private static void keysAndAngles() {
        CartoonHouse house = new CartoonHouse();
        CHECKS.due("no bone", -1, house.key(0, 0, 0));
        CHECKS.due("no bone", -1, house.angle(0, 0));
        house.bone(-1, 10, 4, 20);
        CHECKS.due("low without keys", 4, house.angle(0, 50));
        CHECKS.due("key", 1, house.key(0, 10, 8));
        CHECKS.due("the only one, ahead", 8, house.angle(0, 0));
        CHECKS.due("the only one, behind", 8, house.angle(0, 119));
        CHECKS.due("key", 2, house.key(0, 14, 18));
        int[] due = {8, 8, 11, 13, 16, 18, 18};
        for (int f = 9; f <= 15; f++) {
            // 10 over 4 FRAMES: 2.5, 5, 7.5; halves up
            CHECKS.due("angle " + f, due[f - 9], house.angle(0, f));
        }
        CHECKS.due("key", 3, house.key(0, 16, 4));
        CHECKS.due("down", 11, house.angle(0, 15));
        CHECKS.due("key", 4, house.key(0, 18, 5));
        CHECKS.due("a half", 5, house.angle(0, 17));
        CHECKS.due("key", 5, house.key(0, 20, 4));
        CHECKS.due("a half down is up as well", 5, house.angle(0, 19));
        CHECKS.due("in place of one", 5, house.key(0, 20, 6));
        CHECKS.due("angle", 6, house.angle(0, 20));
        CHECKS.due("key", 6, house.key(0, 0, 20));
        CHECKS.due("full", -4, house.key(0, 1, 20));
        CHECKS.due("in place of one", 6, house.key(0, 0, 4));
        CHECKS.due("none ahead of full", -1, house.key(0, 1, 21));
        CHECKS.due("below low", -1, house.key(0, 0, 3));
        CHECKS.due("no frame", -1, house.key(0, 120, 5));
        CHECKS.due("no frame", -1, house.key(0, -1, 5));
        CHECKS.due("no bone", -1, house.key(1, 0, 5));
        CHECKS.due("no bone", -1, house.key(-1, 0, 5));
        CartoonHouse unsorted = new CartoonHouse();
        unsorted.bone(-1, 1, 0, 31);
        int[] frames = {50, 10, 30, 119, 0, 20};
        for (int f : frames) {
            unsorted.key(0, f, f / 4);
        }
        for (int f : frames) {
            CHECKS.due("a key's own", f / 4, unsorted.angle(0, f));
        }
        CHECKS.due("between neighbours", 6, unsorted.angle(0, 25));
        CHECKS.due("no frame", -1, house.angle(0, 120));
        CHECKS.due("no frame", -1, house.angle(0, -1));
        CHECKS.due("no bone", -1, house.angle(1, 0));
    }

    private static int half(int value) {
        return Math.floorDiv(2 * value + 1024, 2048);
    }

    private static void ends() {
        CartoonHouse house = new CartoonHouse();
        house.bone(-1, 37, 0, 31);
        house.bone(0, 11, 0, 31);
        house.bone(0, 40, 3, 3);
        for (int a = 0; a < 32; a++) {
            house.key(0, 0, a);
            house.key(1, 0, 31 - a);
            int x = 24 + half(37 * SINES[(a + 8) % 32]);
            int y = 16 + half(37 * SINES[a]);
            CHECKS.due("x of bone 0 at " + a, x, house.at(0, 0, 0));
            CHECKS.due("y of bone 0 at " + a, y, house.at(0, 0, 1));
            CHECKS.due("x of bone 1", x + half(11 * SINES[7]), house.at(1, 0, 0));
            CHECKS.due("y of bone 1", y + half(11 * SINES[31]), house.at(1, 0, 1));
            CHECKS.due("x of bone 2", x + half(40 * SINES[(a + 11) % 32]), house.at(2, 5, 0));
            CHECKS.due("y of bone 2", y + half(40 * SINES[(a + 3) % 32]), house.at(2, 5, 1));
        }
        allLengths();
        CHECKS.due("no bone", -100000, house.at(3, 0, 0));
        CHECKS.due("no bone", -100000, house.at(-1, 0, 0));
        CHECKS.due("no frame", -100000, house.at(0, 120, 0));
        CHECKS.due("no frame", -100000, house.at(0, -1, 0));
        CHECKS.due("no axis", -100000, house.at(0, 0, 2));
        CHECKS.due("no axis", -100000, house.at(0, 0, -1));
    }

    private static void allLengths() {
        for (int length = 0; length <= 40; length++) {
            CartoonHouse house = new CartoonHouse();
            house.bone(-1, length, 0, 31);
            for (int a = 0; a < 32; a++) {
                house.key(0, 0, a);
                CHECKS.due("x of length " + length, 24 + half(length * SINES[(a + 8) % 32]), house.at(0, 0, 0));
                CHECKS.due("y of length " + length, 16 + half(length * SINES[a]), house.at(0, 0, 1));
            }
        }
    }

    private static void reaching() {
        CartoonHouse house = new CartoonHouse();
        house.bone(-1, 10, 0, 31);
        CHECKS.due("reach", 0, house.reach(0, 7, 24, 26));
        CHECKS.due("angle", 8, house.angle(0, 7));
        CHECKS.due("a key there", 1, house.key(0, 7, 8));
        CHECKS.due("reach", 90 * 90, house.reach(0, 8, -76, 16));
        CHECKS.due("angle", 16, house.angle(0, 8));
        // the rounded ends lie at 10,0 10,2 9,4 8,6 7,7 ..: 9,4 is the nearest, and the least of its like
        CHECKS.due("at the pivot", 97, house.reach(0, 9, 24, 16));
        CHECKS.due("angle", 2, house.angle(0, 9));
        house.bone(0, 10, 0, 31);
        // 2,10 and -2,10 come as far as 0,10 twice, and their row is less
        CHECKS.due("two bones, right ahead", 0, house.reach(1, 7, 24, 36));
        CHECKS.due("angle", 7, house.angle(0, 7));
        CHECKS.due("angle", 2, house.angle(1, 7));
        CHECKS.due("two bones, folded", 0, house.reach(1, 7, 24, 16));
        CHECKS.due("the least row: the upper one's first", 0, house.angle(0, 7));
        CHECKS.due("angle", 16, house.angle(1, 7));
        house.bone(1, 10, 0, 31);
        house.bone(2, 10, 0, 31);
        house.key(0, 7, 4);
        int x = house.at(0, 7, 0);
        int y = house.at(0, 7, 1);
        CHECKS.due("of four bones the lowest three", 0, house.reach(3, 7, x - 30, y));
        CHECKS.due("the first stays", 4, house.angle(0, 7));
        CHECKS.due("angle", 11, house.angle(1, 7));
        CHECKS.due("angle", 1, house.angle(2, 7));
        CHECKS.due("angle", 1, house.angle(3, 7));
        CHECKS.due("at", x - 30, house.at(3, 7, 0));
        // within LOW and HIGH alone
        CartoonHouse stiff = new CartoonHouse();
        stiff.bone(-1, 10, 2, 3);
        CHECKS.due("reach", 15 * 15 + 12 * 12, stiff.reach(0, 0, 47, 34));
        CHECKS.due("angle", 3, stiff.angle(0, 0));
        bestOfAll();
    }

    /** The whole search is done here again, by the answers of the house itself. */
    private static void bestOfAll() {
        CartoonHouse house = new CartoonHouse();
        house.bone(-1, 13, 30, 31);
        house.bone(0, 9, 3, 9);
        house.bone(1, 12, 0, 6);
        house.bone(2, 7, 20, 26);
        house.key(0, 0, 30);
        CartoonHouse tried = new CartoonHouse();
        tried.bone(-1, 13, 30, 31);
        tried.bone(0, 9, 3, 9);
        tried.bone(1, 12, 0, 6);
        tried.bone(2, 7, 20, 26);
        tried.key(0, 0, 30);
        int nearest = Integer.MAX_VALUE;
        String row = "";
        for (int a = 3; a <= 9; a++) {
            for (int b = 0; b <= 6; b++) {
                for (int c = 20; c <= 26; c++) {
                    tried.key(1, 0, a);
                    tried.key(2, 0, b);
                    tried.key(3, 0, c);
                    int dx = tried.at(3, 0, 0) - 41;
                    int dy = tried.at(3, 0, 1) - 22;
                    if (dx * dx + dy * dy < nearest) {
                        nearest = dx * dx + dy * dy;
                        row = a + " " + b + " " + c;
                    }
                }
            }
        }
        CHECKS.due("reach", nearest, house.reach(3, 0, 41, 22));
        CHECKS.due("angles", row, house.angle(1, 0) + " " + house.angle(2, 0) + " " + house.angle(3, 0));
    }

    private static void reachingRefused() {
        CartoonHouse house = new CartoonHouse();
        CHECKS.due("no bone", -1, house.reach(0, 0, 0, 0));
        house.bone(-1, 10, 0, 31);
        house.bone(0, 10, 0, 31);
        house.bone(1, 10, 0, 31);
        house.bone(2, 10, 0, 31);
        for (int f = 0; f < 6; f++) {
            house.key(0, f, 5);
            house.key(1, f, 5);
        }
        CHECKS.due("no frame", -1, house.reach(2, 120, 0, 0));
        CHECKS.due("no frame", -1, house.reach(2, -1, 0, 0));
        CHECKS.due("too far", -1, house.reach(2, 0, 401, 0));
        CHECKS.due("too far", -1, house.reach(2, 0, 0, -401));
        CHECKS.due("full", -4, house.reach(2, 6, 0, 0));
        CHECKS.due("full by the parent's parent", -4, house.reach(3, 6, 0, 0));
        CHECKS.due("nothing changed", 1, house.key(3, 6, 0));
        CHECKS.due("nothing changed", 1, house.key(2, 6, 0));
        CHECKS.due("a key is there", 0, Math.min(0, house.reach(2, 3, 400, -400)));
        CHECKS.due("key", 2, house.key(2, 3, 0));
        CartoonHouse chain = new CartoonHouse();
        chain.bone(-1, 1, 0, 3);
        chain.bone(0, 1, 0, 3);
        chain.bone(1, 1, 0, 3);
        chain.bone(2, 1, 0, 3);
        for (int f = 0; f < 6; f++) {
            chain.key(0, f, 1);
        }
        CHECKS.due("bone 0 is full, but not asked", 0, Math.min(0, chain.reach(3, 50, 0, 0)));
        CHECKS.due("here it is", -4, chain.reach(2, 50, 0, 0));
        CHECKS.due("the parent alone is full", -4, chain.reach(1, 50, 0, 0));
        CHECKS.due("the bone alone is full", -4, chain.reach(0, 50, 0, 0));
        CHECKS.due("nothing changed", 1, chain.key(1, 50, 0));
    }

    private static void swinging() {
        CartoonHouse house = new CartoonHouse();
        house.bone(-1, 10, 0, 31);
        house.key(0, 0, 10);
        house.key(0, 1, 20);
        CHECKS.due("at 0", 2560, house.swing(0, 0, 16, 16));
        CHECKS.due("all at once", 5120, house.swing(0, 1, 16, 0));
        CHECKS.due("beyond", 7680, house.swing(0, 2, 16, 0));
        CHECKS.due("and back", 7680, house.swing(0, 3, 16, 0));
        CHECKS.due("no pull", 2560, house.swing(0, 119, 0, 0));
        // v: 160, then 160 + 150 - 80; DIV by 16 of 2400 and 160 * 8
        CHECKS.due("soft", 2720, house.swing(0, 1, 1, 8));
        CHECKS.due("soft", 2720 + 230, house.swing(0, 2, 1, 8));
        // below 0 DIV goes down: from 20 to 10 with stiff 3: -7680 / 16 = -480; then -480 - 390 + 90 ..
        CartoonHouse back = new CartoonHouse();
        back.bone(-1, 10, 0, 31);
        back.key(0, 0, 20);
        back.key(0, 1, 10);
        CHECKS.due("back", 5120 - 480, back.swing(0, 1, 3, 3));
        CHECKS.due("back", 4640 - 480 - 390 + 90, back.swing(0, 2, 3, 3));
        // v -780; pull (2560 - 3860) * 3 / 16 = -243.75: -244; damp -780 * 3 / 16 = -146.25: -147
        CHECKS.due("back", 3860 - 780 - 244 + 147, back.swing(0, 3, 3, 3));
        CHECKS.due("no bone", -1000000000, house.swing(1, 0, 0, 0));
        CHECKS.due("no frame", -1000000000, house.swing(0, 120, 0, 0));
        CHECKS.due("stiff", -1000000000, house.swing(0, 0, 17, 0));
        CHECKS.due("stiff", -1000000000, house.swing(0, 0, -1, 0));
        CHECKS.due("damp", -1000000000, house.swing(0, 0, 0, 17));
        CHECKS.due("damp", -1000000000, house.swing(0, 0, 0, -1));
    }
}
