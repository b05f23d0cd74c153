/** Promises 12 to 16: fill, unfill, region, paint, colour. */
public final class FillTest {
    private static final Checks CHECKS = new Checks();
    private static final String BOX = "1 10,10 20,10 20,20 10,20 10,10";

    public static void main(String[] args) {
        boxes();
        gaps();
        borders();
        fullOfFills();
        painting();
        refusals();
        palettes();
        CHECKS.end();
    }

    private static void boxes() {
        CartoonHouse house = new CartoonHouse();
        CHECKS.due("nothing there", -5, house.fill(0, 15, 15, 0, 2));
        Checks.stroke(house, 0, BOX);
        CHECKS.due("fill", 81, house.fill(0, 15, 15, 0, 2));
        CHECKS.due("outside", -5, house.fill(0, 9, 15, 0, 2));
        CHECKS.due("on a wall", 0, house.fill(0, 10, 15, 0, 2));
        CHECKS.due("count(1)", 1, house.count(1));
        CHECKS.due("region", 81, house.region(0, 0));
        Checks.stroke(house, 0, "3 10,15 20,15");
        CHECKS.due("its seed has ink now", 0, house.region(0, 0));
        CHECKS.due("paint", 0, house.paint(0, 12, 12));
        CHECKS.due("fill", 36, house.fill(0, 15, 14, 0, 4));
        CHECKS.due("take", 1, house.take(0, 1));
        CHECKS.due("region", 81, house.region(0, 0));
        CHECKS.due("region", 81, house.region(0, 1));
        CHECKS.due("the last one", 4, house.paint(0, 12, 18));
        CHECKS.due("take", 0, house.take(0, 0));
        CHECKS.due("region", -5, house.region(0, 0));
        CHECKS.due("paint", 0, house.paint(0, 15, 15));
        CartoonHouse small = new CartoonHouse();
        Checks.stroke(small, 0, "1 10,10 12,10 12,12 10,12 10,10");
        CHECKS.due("one pixel", 1, small.fill(0, 11, 11, 0, 3));
        CHECKS.due("one pixel", 3, small.paint(0, 11, 11));
        // steps go to the sides alone, so a slanted line is a wall
        CartoonHouse slanted = new CartoonHouse();
        Checks.stroke(slanted, 0, "1 10,5 15,10 10,15 5,10 10,5");
        CHECKS.due("fill", 41, slanted.fill(0, 10, 10, 0, 1));
    }

    private static void gaps() {
        CartoonHouse house = new CartoonHouse();
        // a box with its last side short by 3
        Checks.stroke(house, 0, "1 10,10 20,10 20,20 10,20 10,13");
        CHECKS.due("gap 0", -5, house.fill(0, 15, 15, 0, 2));
        CHECKS.due("gap 2", -5, house.fill(0, 15, 15, 2, 2));
        CHECKS.due("gap 3", 81, house.fill(0, 15, 15, 3, 2));
        CHECKS.due("a closing has no ink", 0, house.paint(0, 10, 11));
        CHECKS.due("seed on a closing", 0, house.fill(0, 10, 11, 8, 2));
        CHECKS.due("paint", 2, house.paint(0, 15, 15));
        // a corner that is open by 3, 4: the squared distance is 25
        CartoonHouse corner = new CartoonHouse();
        Checks.stroke(corner, 0, "1 13,10 20,10 20,20 10,20 10,14");
        CHECKS.due("gap 4", -5, corner.fill(0, 15, 15, 4, 2));
        CHECKS.due("gap 5", 76, corner.fill(0, 15, 15, 5, 2));
        // between two strokes, from the end of the one to the begin of the other
        CartoonHouse two = new CartoonHouse();
        Checks.stroke(two, 0, "1 10,20 10,10 20,10");
        Checks.stroke(two, 0, "1 22,10 22,20 12,20");
        CHECKS.due("gap 1", -5, two.fill(0, 15, 15, 1, 2));
        CHECKS.due("gap 2", 99, two.fill(0, 15, 15, 2, 2));
        endsAndRings();
        // the line of a closing goes from the first one to the other, so a half falls to one side
        CartoonHouse half = new CartoonHouse();
        Checks.stroke(half, 0, "1 10,10 10,20 20,20 20,10 12,10");
        Checks.stroke(half, 0, "1 12,10 12,9");
        CHECKS.due("gap 2", 81, half.fill(0, 15, 15, 2, 2));
    }

    private static void endsAndRings() {
        String open = "1 10,10 20,10 20,20 10,20 10,13";
        // a ring has no ends: 10,11 is no end, from which 10,13 would be near
        CartoonHouse ring = new CartoonHouse();
        Checks.stroke(ring, 0, open);
        Checks.stroke(ring, 0, "1 10,11 9,11 10,11");
        CHECKS.due("a ring's points", -5, ring.fill(0, 15, 15, 2, 2));
        ring.take(0, 1);
        Checks.stroke(ring, 0, "1 10,11 9,11");
        CHECKS.due("ends", 81, ring.fill(0, 15, 15, 2, 2));
        // the first and the last POINT alone say whether a stroke has ends
        CartoonHouse back = new CartoonHouse();
        Checks.stroke(back, 0, "1 10,10 20,10 20,20 10,20 10,14");
        Checks.stroke(back, 0, "1 8,13 10,13 8,13 10,13");
        CHECKS.due("ends of one that goes to and fro", 81, back.fill(0, 15, 15, 3, 2));
        // the ends of another drawing are none here
        CartoonHouse two = new CartoonHouse();
        Checks.stroke(two, 0, open);
        Checks.stroke(two, 1, "1 10,11 10,12");
        CHECKS.due("paint", 1, two.paint(1, 10, 11));
        CHECKS.due("another drawing's ends", -5, two.fill(0, 15, 15, 2, 2));
    }

    private static void borders() {
        int[][] boxes = {{0, 5, 9, 12}, {5, 0, 12, 9}, {38, 5, 47, 12}, {5, 22, 12, 31}};
        for (int[] b : boxes) {
            CartoonHouse house = new CartoonHouse();
            Checks.stroke(house, 0, "1 " + b[0] + "," + b[1] + " " + b[2] + "," + b[1] + " " + b[2] + "," + b[3] + " "
                    + b[0] + "," + b[3] + " " + b[0] + "," + b[1]);
            int inner = (b[2] - b[0] - 1) * (b[3] - b[1] - 1);
            CHECKS.due("a box at the border", inner, house.fill(0, b[0] + 2, b[1] + 2, 0, 1));
            CHECKS.due("seed on the wall at the border", 0, house.fill(0, b[0], b[1], 0, 1));
        }
        // closed by the border alone: OPEN
        CartoonHouse corner = new CartoonHouse();
        Checks.stroke(corner, 0, "1 0,5 5,5 5,0");
        CHECKS.due("the corner", -5, corner.fill(0, 2, 2, 0, 1));
        Checks.stroke(corner, 0, "1 47,26 42,26 42,31");
        CHECKS.due("the other corner", -5, corner.fill(0, 45, 29, 0, 1));
        String[] cells = {"1 0,9 1,9 1,11 0,11", "1 47,9 46,9 46,11 47,11", "1 9,0 9,1 11,1 11,0",
            "1 9,31 9,30 11,30 11,31", "1 1,0 1,1 0,1", "1 46,31 46,30 47,30", "1 46,0 46,1 47,1", "1 0,30 1,30 1,31"};
        int[][] seeds = {{0, 10}, {47, 10}, {10, 0}, {10, 31}, {0, 0}, {47, 31}, {47, 0}, {0, 31}};
        for (int k = 0; k < cells.length; k++) {
            CartoonHouse cell = new CartoonHouse();
            Checks.stroke(cell, 0, cells[k]);
            CHECKS.due("a cell of one pixel at the border", -5, cell.fill(0, seeds[k][0], seeds[k][1], 0, 1));
        }
        // no step leads from the end of one row to the begin of the next one
        CartoonHouse sides = new CartoonHouse();
        Checks.stroke(sides, 0, "1 0,9 1,9 1,11 0,11");
        Checks.stroke(sides, 0, "1 47,9 46,9 46,11 47,11");
        CHECKS.due("walls at both sides", -5, sides.fill(0, 0, 10, 0, 1));
        CHECKS.due("walls at both sides", -5, sides.fill(0, 47, 10, 0, 1));
        CartoonHouse whole = new CartoonHouse();
        Checks.stroke(whole, 0, "1 0,0 47,0 47,31 0,31 0,0");
        CHECKS.due("all but the border", 46 * 30, whole.fill(0, 20, 20, 0, 1));
    }

    private static void fullOfFills() {
        CartoonHouse house = new CartoonHouse();
        Checks.stroke(house, 5, BOX);
        for (int k = 1; k <= 6; k++) {
            CHECKS.due("fill", 81, house.fill(5, 15, 15, k, k));
        }
        CHECKS.due("full", -4, house.fill(5, 15, 15, 0, 7));
        CHECKS.due("full ahead of OPEN", -4, house.fill(5, 1, 1, 0, 7));
        CHECKS.due("full ahead of 0", -4, house.fill(5, 10, 10, 0, 7));
        CHECKS.due("none ahead of full", -1, house.fill(5, 15, 15, 9, 7));
        CHECKS.due("paint", 6, house.paint(5, 15, 15));
        CHECKS.due("unfill", 5, house.unfill(5, 5));
        CHECKS.due("paint", 5, house.paint(5, 15, 15));
        CHECKS.due("unfill", 4, house.unfill(5, 0));
        CHECKS.due("unfill", 3, house.unfill(5, 2));
        CHECKS.due("paint", 5, house.paint(5, 15, 15));
        CHECKS.due("unfill", 2, house.unfill(5, 2));
        CHECKS.due("paint", 3, house.paint(5, 15, 15));
        CHECKS.due("unfill", -1, house.unfill(5, 2));
        CHECKS.due("unfill", -1, house.unfill(5, -1));
        CHECKS.due("unfill", -1, house.unfill(16, 0));
        CHECKS.due("count(1)", 2, house.count(1));
        CartoonHouse other = new CartoonHouse();
        Checks.stroke(other, 0, "1 2,2 6,2 6,6 2,6 2,2");
        Checks.stroke(other, 0, "1 10,10 20,10 20,20 10,20 10,13");
        CHECKS.due("fill", 9, other.fill(0, 4, 4, 0, 1));
        CHECKS.due("fill", 81, other.fill(0, 15, 15, 3, 2));
        CHECKS.due("unfill", 1, other.unfill(0, 0));
        CHECKS.due("its seed, gap and colour come along", 81, other.region(0, 0));
        CHECKS.due("paint", 2, other.paint(0, 15, 15));
        CHECKS.due("paint", 0, other.paint(0, 4, 4));
    }

    private static void painting() {
        CartoonHouse house = new CartoonHouse();
        Checks.stroke(house, 0, "3 0,0 10,0");
        Checks.stroke(house, 0, "5 5,0 5,5 0,5");
        CHECKS.due("paint", 3, house.paint(0, 4, 0));
        CHECKS.due("the last stroke", 5, house.paint(0, 5, 0));
        CHECKS.due("paint", 3, house.paint(0, 6, 0));
        CHECKS.due("paint", 5, house.paint(0, 0, 5));
        CHECKS.due("paint", 0, house.paint(0, 11, 0));
        CHECKS.due("paint of another drawing", 0, house.paint(1, 5, 0));
        CHECKS.due("paint", -1, house.paint(0, -1, 0));
        CHECKS.due("paint", -1, house.paint(0, 48, 0));
        CHECKS.due("paint", -1, house.paint(0, 0, 32));
        CHECKS.due("paint", -1, house.paint(0, 0, -1));
        CHECKS.due("paint", -1, house.paint(16, 0, 0));
        CHECKS.due("paint", -1, house.paint(-1, 0, 0));
        // an earlier FILL shows where a later one does not reach
        CartoonHouse nested = new CartoonHouse();
        Checks.stroke(nested, 0, "1 2,2 30,2 30,30 2,30 2,2");
        CHECKS.due("fill", 27 * 27, nested.fill(0, 10, 10, 0, 8));
        Checks.stroke(nested, 0, "2 5,5 9,5 9,9 5,9 5,5");
        CHECKS.due("fill", 9, nested.fill(0, 7, 7, 0, 9));
        CHECKS.due("paint", 8, nested.paint(0, 10, 10));
        CHECKS.due("paint", 9, nested.paint(0, 7, 7));
        CHECKS.due("paint", 2, nested.paint(0, 5, 5));
        CHECKS.due("paint", 0, nested.paint(0, 1, 1));
        CHECKS.due("region", 27 * 27 - 25, nested.region(0, 0));
    }

    private static void refusals() {
        CartoonHouse house = new CartoonHouse();
        Checks.stroke(house, 0, BOX);
        CHECKS.due("fill", -1, house.fill(16, 15, 15, 0, 1));
        CHECKS.due("fill", -1, house.fill(-1, 15, 15, 0, 1));
        CHECKS.due("fill", -1, house.fill(0, 48, 15, 0, 1));
        CHECKS.due("fill", -1, house.fill(0, 15, 32, 0, 1));
        CHECKS.due("fill", -1, house.fill(0, 15, -1, 0, 1));
        CHECKS.due("fill", -1, house.fill(0, 15, 15, 9, 1));
        CHECKS.due("fill", -1, house.fill(0, 15, 15, -1, 1));
        CHECKS.due("fill", -1, house.fill(0, 15, 15, 0, 0));
        CHECKS.due("fill", -1, house.fill(0, 15, 15, 0, 16));
        CHECKS.due("region", -1, house.region(0, 0));
        CHECKS.due("fill", 81, house.fill(0, 15, 15, 8, 15));
        CHECKS.due("region", -1, house.region(0, 1));
        CHECKS.due("region", -1, house.region(0, -1));
        CHECKS.due("region", -1, house.region(16, 0));
    }

    private static void palettes() {
        CartoonHouse house = new CartoonHouse();
        CHECKS.due("colour", 1118481, house.colour(0, 1, 0));
        CHECKS.due("colour", 0, house.colour(0, 1, 16777215));
        CHECKS.due("colour", 16777215, house.colour(0, 1, 5));
        CHECKS.due("another palette", 1118481, house.colour(3, 1, 5));
        CHECKS.due("another colour", 16777215, house.colour(0, 15, 6));
        CHECKS.due("colour", -1, house.colour(4, 1, 5));
        CHECKS.due("colour", -1, house.colour(-1, 1, 5));
        CHECKS.due("colour", -1, house.colour(0, 0, 5));
        CHECKS.due("colour", -1, house.colour(0, 16, 5));
        CHECKS.due("colour", -1, house.colour(0, 1, -1));
        CHECKS.due("colour", -1, house.colour(0, 1, 16777216));
        CHECKS.due("nothing changed", 5, house.colour(0, 1, 5));
    }
}
