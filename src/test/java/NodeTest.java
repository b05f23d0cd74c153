/** Promises 43 to 46: node, clear, sample, drawn. */
public final class NodeTest {
    private static final Checks CHECKS = new Checks();

    public static void main(String[] args) {
        nodes();
        wrongNodes();
        layers();
        overAndMatteAndShift();
        fades();
        blurs();
        sparks();
        refusals();
        CHECKS.end();
    }

    private static void nodes() {
        CartoonHouse house = new CartoonHouse();
        CHECKS.due("node", 0, Checks.node(house, "paper 16777215"));
        CHECKS.due("node", 1, Checks.node(house, "layer 3 3"));
        CHECKS.due("node", 2, Checks.node(house, "over 1 0"));
        CHECKS.due("node", 3, Checks.node(house, "shift 2 -60 60"));
        CHECKS.due("node", 4, Checks.node(house, "matte 3 3"));
        CHECKS.due("node", 5, Checks.node(house, "fade 4 0 0 119"));
        CHECKS.due("node", 6, Checks.node(house, "blur 5"));
        CHECKS.due("node", 7, Checks.node(house, "sparks -99999 47 31 20 0"));
        CHECKS.due("node", 8, Checks.node(house, "sparks 99999 0 0 1 16777215"));
        CHECKS.due("node", 9, Checks.node(house, "fade 8 8 118 119"));
        CHECKS.due("full", -4, Checks.node(house, "blur 9"));
        CHECKS.due("wrong ahead of full", -1005, Checks.node(house, "blur 10"));
        CHECKS.due("count(3)", 10, house.count(3));
        CHECKS.due("clear", 10, house.clear());
        CHECKS.due("clear", 0, house.clear());
        CHECKS.due("none", -1, house.drawn(0, 0));
        CHECKS.due("no node to tell of", -1005, Checks.node(house, "blur 0"));
        CHECKS.due("node", 0, Checks.node(house, "paper 0"));
        CHECKS.due("black is not CLEAR", 0, house.sample(0, 0, 0, 0));
        CHECKS.due("drawn", 1536, house.drawn(0, 119));
    }

    private static void wrongNodes() {
        CartoonHouse house = new CartoonHouse();
        Checks.node(house, "paper 1");
        Checks.node(house, "paper 2");
        String[] texts = {"", " ", "pap", "papers 1", "paper1 1", "Paper 1", "1paper 1", "paper", "paper ", "paper  1",
            "paper -1", "paper 16777216", "paper 1 ", "paper 1 2", "paper 1x", "paper\n1", "layer 4 0", "layer 0 4",
            "layer 0", "layer 0 ", "over 2 0", "over 0 2", "over 0", "over -1 0", "shift 0 61 0", "shift 0 0 -61",
            "shift 0 -0 0", "shift 0 0", "matte 0 2", "matte 2 0", "fade 0 1 5 5", "fade 0 1 5 4", "fade 0 1 120 5",
            "fade 0 1 5 120", "fade 0 1 119 119", "fade 0 2 1 2", "fade 0 1 1", "blur 2", "blur", "blur 1 ",
            "sparks 100000 0 0 1 0", "sparks -100000 0 0 1 0", "sparks 0 48 0 1 0", "sparks 0 0 32 1 0",
            "sparks 0 0 0 0 0", "sparks 0 0 0 21 0", "sparks 0 0 0 1 16777216", "sparks 0 0 0 1", "sparks 0 -1 0 1 0",
            "over,0 0", "zzz", "over0 1", "overA 0 1", "xaper 1", "lover 0 1"};
        int[] places = {0, 0, 0, 0, 0, 0, 0, 5, 6, 6,
            6, 6, 7, 7, 7, 5, 6, 8,
            7, 8, 5, 7, 6, 5, 8, 10,
            9, 9, 8, 6, 11, 11, 9,
            11, 13, 7, 10, 5, 4, 6,
            7, 7, 9, 11,
            13, 13, 15, 14, 9,
            4, 0, 0, 4, 0, 0};
        for (int k = 0; k < texts.length; k++) {
            CHECKS.due("node " + texts[k], -1000 - places[k], Checks.node(house, texts[k]));
        }
        CHECKS.due("none came", 2, house.count(3));
        CHECKS.due("node", 2, Checks.node(house, "over 1 0"));
        CHECKS.due("sample", 2, house.sample(2, 0, 0, 0));
    }

    private static void layers() {
        CartoonHouse house = new CartoonHouse();
        Checks.stroke(house, 4, "3 10,10 20,10 20,20 10,20 10,10");
        house.fill(4, 15, 15, 0, 5);
        Checks.sheet(house, 2, "- 4*2 5");
        house.colour(1, 3, 777);
        house.colour(1, 5, 0);
        CHECKS.due("node", 0, Checks.node(house, "layer 2 1"));
        CHECKS.due("nothing shown", 0, house.drawn(0, 0));
        CHECKS.due("drawn", 121, house.drawn(0, 1));
        CHECKS.due("drawn", 121, house.drawn(0, 2));
        CHECKS.due("an empty drawing", 0, house.drawn(0, 3));
        CHECKS.due("behind the end", 0, house.drawn(0, 4));
        CHECKS.due("ink", 777, house.sample(0, 1, 10, 10));
        CHECKS.due("a fill", 0, house.sample(0, 1, 15, 15));
        CHECKS.due("clear", -1, house.sample(0, 1, 9, 10));
        Checks.node(house, "layer 2 0");
        CHECKS.due("another palette", 3 * 1118481, house.sample(1, 1, 10, 10));
        // the camera: twice as large, from 10,10 .. 20,20 to -4,4 .. 16,24
        house.camera(0, 0, 0, 128);
        CHECKS.due("twice", 777, house.sample(0, 1, 16, 4));
        CHECKS.due("twice", 777, house.sample(0, 1, 15, 10));
        CHECKS.due("twice", 0, house.sample(0, 1, 14, 10));
        CHECKS.due("twice", -1, house.sample(0, 1, 17, 10));
        house.camera(0, -7, 3, 64);
        CHECKS.due("aside", 777, house.sample(0, 1, 17, 7));
        CHECKS.due("aside", -1, house.sample(0, 1, 16, 7));
        house.depth(2, 128);
        // far away the way of 7 counts half: at 13 lies 13 - 3.5, with a half up 10
        CHECKS.due("aside, far", -1, house.sample(0, 1, 12, 9));
        CHECKS.due("aside, far", 777, house.sample(0, 1, 13, 9));
        CHECKS.due("aside, far", 0, house.sample(0, 1, 14, 9));
        // out of the paper nothing is
        CartoonHouse edge = new CartoonHouse();
        Checks.stroke(edge, 0, "1 0,0 47,0 47,31 0,31 0,0");
        edge.fill(0, 5, 5, 0, 2);
        Checks.sheet(edge, 0, "0");
        Checks.node(edge, "layer 0 0");
        CHECKS.due("all of it", 1536, edge.drawn(0, 0));
        edge.camera(0, 0, 0, 32);
        CHECKS.due("at half", 24 * 16, edge.drawn(0, 0));
        edge.camera(0, 40, 0, 64);
        CHECKS.due("a part of it", 8 * 32, edge.drawn(0, 0));
        edge.camera(0, 400, 0, 64);
        CHECKS.due("far off", 0, edge.drawn(0, 0));
    }

    /** Node 0: a square of 10,10 .. 14,14 in 1118481; node 1: paper 200. */
    private static CartoonHouse square() {
        CartoonHouse house = new CartoonHouse();
        Checks.stroke(house, 0, "1 10,10 14,10 14,14 10,14 10,10");
        house.fill(0, 12, 12, 0, 2);
        Checks.sheet(house, 0, "0*99 0*21");
        Checks.node(house, "layer 0 0");
        Checks.node(house, "paper 200");
        return house;
    }

    private static void overAndMatteAndShift() {
        CartoonHouse house = square();
        Checks.node(house, "over 0 1");
        Checks.node(house, "over 1 0");
        Checks.node(house, "matte 1 0");
        Checks.node(house, "matte 0 1");
        Checks.node(house, "shift 0 3 -2");
        Checks.node(house, "matte 0 6");
        Checks.node(house, "shift 1 -40 20");
        Checks.node(house, "shift 1 60 0");
        CHECKS.due("over", 1118481, house.sample(2, 0, 10, 10));
        CHECKS.due("over", 2 * 1118481, house.sample(2, 0, 12, 12));
        CHECKS.due("over", 200, house.sample(2, 0, 9, 10));
        CHECKS.due("under", 200, house.sample(3, 0, 10, 10));
        CHECKS.due("matte", 25, house.drawn(4, 0));
        CHECKS.due("matte", 200, house.sample(4, 0, 12, 12));
        CHECKS.due("matte", -1, house.sample(4, 0, 9, 9));
        CHECKS.due("matte", 25, house.drawn(5, 0));
        CHECKS.due("shift", 25, house.drawn(6, 0));
        CHECKS.due("shift", 1118481, house.sample(6, 0, 13, 8));
        CHECKS.due("shift", -1, house.sample(6, 0, 12, 8));
        CHECKS.due("shift", 1118481, house.sample(6, 0, 17, 12));
        CHECKS.due("matte of both", 2 * 3, house.drawn(7, 0));
        CHECKS.due("shifted paper", 8 * 12, house.drawn(8, 0));
        CHECKS.due("shifted paper", 200, house.sample(8, 0, 7, 20));
        CHECKS.due("shifted paper", -1, house.sample(8, 0, 8, 20));
        CHECKS.due("shifted off", 0, house.drawn(9, 0));
    }

    private static void fades() {
        CartoonHouse house = square();
        // 0x00c8 and 1118481 = 0x111111
        Checks.node(house, "fade 0 1 10 14");
        Checks.node(house, "fade 1 0 10 14");
        CHECKS.due("ahead: A", 1118481, house.sample(2, 0, 10, 10));
        CHECKS.due("ahead: B alone is not", -1, house.sample(2, 10, 9, 9));
        CHECKS.due("at F", 1118481, house.sample(2, 10, 10, 10));
        // a quarter: red (17 * 3 + 0) / 4 = 12.75: 13; blue (51 + 200) / 4 = 62.75: 63
        CHECKS.due("a quarter", 13 << 16 | 13 << 8 | 63, house.sample(2, 11, 10, 10));
        CHECKS.due("a quarter: B alone is not", -1, house.sample(2, 11, 9, 9));
        // a half: 8.5: 9; 108.5: 109
        CHECKS.due("a half", 9 << 16 | 9 << 8 | 109, house.sample(2, 12, 10, 10));
        CHECKS.due("a half: B alone is", 200, house.sample(2, 12, 9, 9));
        CHECKS.due("at G", 200, house.sample(2, 14, 10, 10));
        CHECKS.due("behind G", 200, house.sample(2, 119, 10, 10));
        CHECKS.due("the other way: A alone", 200, house.sample(3, 11, 9, 9));
        CHECKS.due("the other way: A alone no more", -1, house.sample(3, 12, 9, 9));
        CHECKS.due("the other way: both", 1118481, house.sample(3, 14, 10, 10));
        CHECKS.due("drawn", 25, house.drawn(3, 14));
        Checks.node(house, "fade 0 0 0 1");
        CHECKS.due("G next to F", 1118481, house.sample(4, 0, 10, 10));
        CHECKS.due("G next to F", 2 * 1118481, house.sample(4, 1, 12, 12));
        Checks.node(house, "fade 0 1 10 15");
        CHECKS.due("less than a half: B alone is not", -1, house.sample(5, 12, 9, 9));
        CHECKS.due("more than a half: B alone is", 200, house.sample(5, 13, 9, 9));
        Checks.node(house, "fade 0 0 10 14");
        CHECKS.due("where neither is", -1, house.sample(6, 12, 9, 9));
    }

    private static void blurs() {
        CartoonHouse house = square();
        Checks.node(house, "blur 0");
        Checks.node(house, "blur 1");
        CHECKS.due("paper stays", 200, house.sample(3, 0, 0, 0));
        CHECKS.due("clear stays", -1, house.sample(2, 0, 9, 9));
        CHECKS.due("drawn", 25, house.drawn(2, 0));
        // ink 17, fill 34: at the corner 3 of 17 and 1 of 34: 21.25; at a side 6 of 6.. at 12,10 3 * 17 + 3 * 34
        CHECKS.due("a corner", 21 * 65793, house.sample(2, 0, 10, 10));
        CHECKS.due("a side: a half up", 26 * 65793, house.sample(2, 0, 12, 10));
        CHECKS.due("the middle", 34 * 65793, house.sample(2, 0, 12, 12));
        CHECKS.due("inside at a corner", (int) Math.round((5 * 17 + 4 * 34) / 9.0) * 65793, house.sample(2, 0, 11, 11));
        CartoonHouse edge = new CartoonHouse();
        Checks.stroke(edge, 0, "1 0,0 1,0");
        Checks.stroke(edge, 0, "2 1,0 1,1");
        edge.colour(0, 1, 0xff0001);
        edge.colour(0, 2, 0x00ff02);
        Checks.sheet(edge, 0, "0");
        Checks.node(edge, "layer 0 0");
        Checks.node(edge, "blur 0");
        CHECKS.due("at the screen's corner", 85 << 16 | 170 << 8 | 2, edge.sample(1, 0, 0, 0));
        CHECKS.due("drawn", 3, edge.drawn(1, 0));
        CartoonHouse far = new CartoonHouse();
        Checks.stroke(far, 0, "3 47,30 47,31");
        Checks.stroke(far, 0, "1 46,30 46,31");
        Checks.stroke(far, 0, "2 47,30 46,31");
        far.colour(0, 1, 0x100000);
        far.colour(0, 2, 0x000020);
        far.colour(0, 3, 0x000800);
        Checks.sheet(far, 0, "0");
        Checks.node(far, "layer 0 0");
        Checks.node(far, "blur 0");
        Checks.node(far, "sparks 1 30 9 1 70000");
        Checks.node(far, "blur 2");
        CHECKS.due("at the other corner", 0x040210, far.sample(1, 0, 47, 31));
        CHECKS.due("at the other corner", 0x040210, far.sample(1, 0, 46, 30));
        CHECKS.due("one pixel alone", 70000, far.sample(3, 0, 30, 9));
    }

    private static int hash(int h, int a, int b, int c, int d) {
        for (int it : new int[] {a, b, c, d}) {
            h = (h ^ it) * 16777619;
            h = h ^ (h >>> 15);
        }
        return h;
    }

    private static void sparks() {
        CartoonHouse house = new CartoonHouse();
        Checks.node(house, "sparks -321 24 20 5 99");
        Checks.node(house, "sparks -321 24 20 20 99");
        int most = 0;
        for (int f = 0; f < 50; f++) {
            for (int node = 0; node < 2; node++) {
                boolean[] isThere = new boolean[1536];
                int due = 0;
                for (int k = 0; k < (node == 0 ? 5 : 20); k++) {
                    int t = f - k;
                    int v = (hash(-321, k, 1, 0, 0) >>> 8) % 17 - 8;
                    int w = (hash(-321, k, 2, 0, 0) >>> 8) % 33 - 24;
                    int x = 24 + (int) Math.floor(v * t / 4.0);
                    int y = 20 + (int) Math.floor((w * t + t * t) / 8.0);
                    if (t >= 0 && t <= 23 && x >= 0 && x < 48 && y >= 0 && y < 32 && !isThere[y * 48 + x]) {
                        isThere[y * 48 + x] = true;
                        due++;
                        CHECKS.due("a spark", 99, house.sample(node, f, x, y));
                    }
                }
                most = Math.max(most, due);
                CHECKS.due("drawn", due, house.drawn(node, f));
            }
        }
        CHECKS.due("there were some", 1, most > 4 ? 1 : 0);
        CHECKS.due("the first one at its place", 99, house.sample(0, 0, 24, 20));
    }

    private static void refusals() {
        CartoonHouse house = new CartoonHouse();
        Checks.node(house, "paper 5");
        CHECKS.due("sample", 5, house.sample(0, 119, 47, 31));
        CHECKS.due("sample", -1, house.sample(1, 0, 0, 0));
        CHECKS.due("sample", -1, house.sample(-1, 0, 0, 0));
        CHECKS.due("sample", -1, house.sample(0, -1, 0, 0));
        CHECKS.due("sample", -1, house.sample(0, 120, 0, 0));
        CHECKS.due("sample", -1, house.sample(0, 0, 48, 0));
        CHECKS.due("sample", -1, house.sample(0, 0, 0, 32));
        CHECKS.due("sample", -1, house.sample(0, 0, -1, 0));
        CHECKS.due("drawn", -1, house.drawn(1, 0));
        CHECKS.due("drawn", -1, house.drawn(-1, 0));
        CHECKS.due("drawn", -1, house.drawn(0, 120));
        CHECKS.due("drawn", -1, house.drawn(0, -1));
    }
}
