/** Promises 47 to 49: film, played, flicker. */
public final class FilmTest {
    private static final Checks CHECKS = new Checks();

    public static void main(String[] args) {
        bytes();
        longRuns();
        filmsArePlayed();
        refusals();
        flickers();
        CHECKS.end();
    }

    private static String film(CartoonHouse house, int node, int from, int to) {
        int many = house.film(node, from, to);
        StringBuilder all = new StringBuilder();
        for (int k = 0; k < many; k++) {
            all.append(k > 0 ? " " : "").append(house.out(k));
        }
        CHECKS.due("behind the film", -1, house.out(many));
        CHECKS.due("count(5)", many, house.count(5));
        CHECKS.due("count(4)", to - from + 1, house.count(4));
        return all.toString();
    }

    private static void bytes() {
        CartoonHouse house = new CartoonHouse();
        Checks.stroke(house, 0, "1 0,0 2,0");
        Checks.stroke(house, 1, "2 2,0 4,0");
        Checks.sheet(house, 0, "0 0 1 -");
        Checks.node(house, "layer 0 0");
        house.colour(0, 1, 0x0a14ff);
        house.colour(0, 2, 0);
        String rest = "255 0 255 0 255 0 255 0 255 0 ";
        CHECKS.due("one frame", "0 3 1 10 20 255 1 10 20 255 1 10 20 255 " + rest + "255 0 3 0", film(house, 0, 0, 0));
        CHECKS.due("the same again", "0 3 1 10 20 255 1 10 20 255 1 10 20 255 " + rest + "255 0 3 0 " + rest
                + "255 0 6 0", film(house, 0, 0, 1));
        CHECKS.due("another drawing, then nothing", rest + "255 0 6 0 "
                + "2 3 1 0 0 0 1 0 0 0 1 0 0 0 " + rest + "255 0 1 0 "
                + "2 3 0 0 0 " + rest + "255 0 1 0", filmOfLast(house));
        CHECKS.due("CLEAR is told where it was not so", "0 3 1 10 20 255 1 10 20 255 1 10 20 255 " + rest
                + "255 0 3 0 0 5 0 0 1 0 0 0 1 0 0 0 1 0 0 0 " + rest + "255 0 1 0", film(house, 0, 1, 2));
    }

    /** A FRAME of nothing ahead: the FRAMES 2, 3 behind an empty one. */
    private static String filmOfLast(CartoonHouse house) {
        Checks.sheet(house, 1, "- 1 -");
        Checks.node(house, "layer 1 0");
        return film(house, 1, 0, 2);
    }

    private static void longRuns() {
        CartoonHouse house = new CartoonHouse();
        Checks.node(house, "paper 66051");
        StringBuilder due = new StringBuilder();
        for (int k = 0; k < 6; k++) {
            due.append("0 255 ").append(Checks.repeat("1 1 2 3", 255)).append(' ');
        }
        due.append("0 6 ").append(Checks.repeat("1 1 2 3", 6));
        CHECKS.due("paper", due.toString(), film(house, 0, 5, 5));
        CHECKS.due("paper that stays", due + " 255 0 255 0 255 0 255 0 255 0 255 0 6 0", film(house, 0, 5, 6));
        // the dearest film: all PIXELS are others at each FRAME
        Checks.node(house, "paper 0");
        Checks.node(house, "fade 0 1 0 100");
        CHECKS.due("the last ones", 6158 + 14, house.film(2, 100, 101));
        CartoonHouse dear = new CartoonHouse();
        Checks.node(dear, "paper 0");
        Checks.node(dear, "paper 16777215");
        Checks.node(dear, "fade 0 1 0 100");
        CHECKS.due("the dearest", 8 * 6158, dear.film(2, 10, 17));
        CHECKS.due("its last byte", (int) Math.floor(255 * 17 / 100.0 + 0.5), dear.out(8 * 6158 - 1));
        CHECKS.due("behind", -1, dear.out(8 * 6158));
    }

    /** The bytes are read here again, and must give what the nodes have. */
    private static void filmsArePlayed() {
        CartoonHouse house = new CartoonHouse();
        Checks.stroke(house, 0, "1 5,5 40,8 30,28 6,25 5,5");
        house.fill(0, 20, 15, 0, 3);
        Checks.stroke(house, 1, "2 1,1 46,30");
        Checks.sheet(house, 0, "(0 1 0*2 -)*5");
        house.wiggle(0, 4, 2, 2);
        house.camera(0, 0, 0, 64);
        house.camera(30, 9, -9, 100);
        Checks.node(house, "layer 0 2");
        Checks.node(house, "sparks 17 20 10 20 16711680");
        Checks.node(house, "over 1 0");
        Checks.node(house, "blur 2");
        Checks.node(house, "fade 2 3 2 9");
        int many = house.film(4, 3, 10);
        int[] now = new int[1536];
        java.util.Arrays.fill(now, -1);
        int at = 0;
        for (int n = 0; n < 8; n++) {
            int p = 0;
            while (p < 1536) {
                p += house.out(at);
                int others = house.out(at + 1);
                at += 2;
                for (int k = 0; k < others; k++, p++) {
                    boolean isClear = house.out(at) == 0;
                    now[p] = isClear ? -1 : house.out(at + 1) << 16 | house.out(at + 2) << 8 | house.out(at + 3);
                    at += isClear ? 1 : 4;
                }
            }
            int drawn = 0;
            for (int q = 0; q < 1536; q++) {
                CHECKS.due("played", now[q], house.played(n, q % 48, q / 48));
                drawn += now[q] >= 0 ? 1 : 0;
                if (q % 37 == n) {
                    CHECKS.due("sample", now[q], house.sample(4, 3 + n, q % 48, q / 48));
                }
            }
            CHECKS.due("drawn", drawn, house.drawn(4, 3 + n));
        }
        CHECKS.due("all bytes are read", many, at);
        int there = house.played(0, 20, 10);
        house.take(0, 0);
        house.clear();
        CHECKS.due("a film stays as it was taken", there, house.played(0, 20, 10));
        CHECKS.due("count(4)", 8, house.count(4));
        CHECKS.due("count(5)", many, house.count(5));
        house.written(0);
        CHECKS.due("count(5)", many, house.count(5));
        CHECKS.due("out", -1, house.out(0));
    }

    private static void refusals() {
        CartoonHouse house = new CartoonHouse();
        CHECKS.due("no node", -1, house.film(0, 0, 0));
        Checks.node(house, "paper 5");
        CHECKS.due("nine frames", -1, house.film(0, 0, 8));
        CHECKS.due("from above to", -1, house.film(0, 5, 4));
        CHECKS.due("no frame", -1, house.film(0, -1, 0));
        CHECKS.due("no frame", -1, house.film(0, 119, 120));
        CHECKS.due("no frames", -1, house.film(0, Integer.MIN_VALUE, Integer.MAX_VALUE));
        CHECKS.due("no node", -1, house.film(1, 0, 0));
        CHECKS.due("count(4)", 0, house.count(4));
        CHECKS.due("played", -3, house.played(0, 0, 0));
        CHECKS.due("film", 6158 + 7 * 14, house.film(0, 112, 119));
        CHECKS.due("played", 5, house.played(7, 47, 31));
        CHECKS.due("no frame of it", -3, house.played(8, 0, 0));
        CHECKS.due("no frame of it", -3, house.played(-1, 0, 0));
        CHECKS.due("no pixel", -3, house.played(0, 48, 0));
        CHECKS.due("no pixel", -3, house.played(0, 0, 32));
        CHECKS.due("no pixel", -3, house.played(0, -1, 0));
        CHECKS.due("refused", -1, house.film(0, 0, 8));
        CHECKS.due("the old one stays", 8, house.count(4));
        CHECKS.due("its bytes stay", 255, house.out(1));
        Checks.node(house, "layer 0 0");
        CHECKS.due("in place of another one", 14, house.film(1, 0, 0));
        CHECKS.due("CLEAR", -1, house.played(0, 0, 0));
        CHECKS.due("no more", -3, house.played(1, 0, 0));
    }

    private static void flickers() {
        CartoonHouse house = new CartoonHouse();
        Checks.stroke(house, 0, "1 0,0 9,0");
        Checks.stroke(house, 1, "1 5,0 12,0");
        Checks.stroke(house, 2, "2 5,0 12,0");
        Checks.sheet(house, 0, "0 1 0 0 2 1 2 -*3 0 -*99");
        Checks.node(house, "layer 0 0");
        Checks.node(house, "paper 3");
        // 0 .. 4 go and come, 10 .. 12 come and go
        CHECKS.due("flicker", 8, house.flicker(0, 1));
        CHECKS.due("back, and it stays", 0, house.flicker(0, 2));
        CHECKS.due("stays", 0, house.flicker(0, 3));
        // 2 at 4 between 0 and 1: at 5 .. 9 another colour and back, 0 .. 4 go for good
        CHECKS.due("flicker", 5, house.flicker(0, 4));
        CHECKS.due("flicker", 8, house.flicker(0, 5));
        CHECKS.due("nothing", 0, house.flicker(0, 8));
        CHECKS.due("once", 10, house.flicker(0, 10));
        CHECKS.due("behind", 0, house.flicker(0, 118));
        CHECKS.due("paper", 0, house.flicker(1, 1));
        CHECKS.due("no frame", -1, house.flicker(0, 0));
        CHECKS.due("no frame", -1, house.flicker(0, 119));
        CHECKS.due("no frame", -1, house.flicker(0, -1));
        CHECKS.due("no node", -1, house.flicker(2, 5));
        CHECKS.due("no node", -1, house.flicker(-1, 5));
    }
}
