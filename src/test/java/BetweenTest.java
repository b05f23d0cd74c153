import java.util.Random;

/** Promises 21 to 25: mark, unmark, match, partner, tween. */
public final class BetweenTest {
    private static final Checks CHECKS = new Checks();

    public static void main(String[] args) {
        marks();
        matches();
        ties();
        matchesWithMarks();
        matchesAgainstAllRows();
        tweens();
        tweensOfPoints();
        tweensRefused();
        CHECKS.end();
    }

    private static void marks() {
        CartoonHouse house = new CartoonHouse();
        CHECKS.due("unmark", 0, house.unmark());
        CHECKS.due("mark", 1, house.mark(0, 7));
        CHECKS.due("this i", -3, house.mark(0, 6));
        CHECKS.due("this j", -3, house.mark(1, 7));
        CHECKS.due("both", -3, house.mark(0, 7));
        CHECKS.due("wrong", -1, house.mark(8, 7));
        CHECKS.due("wrong", -1, house.mark(0, 8));
        CHECKS.due("wrong", -1, house.mark(-1, 0));
        CHECKS.due("mark", 2, house.mark(7, 0));
        CHECKS.due("mark", 3, house.mark(3, 3));
        CHECKS.due("mark", 4, house.mark(4, 5));
        CHECKS.due("full", -4, house.mark(5, 6));
        CHECKS.due("state ahead of full", -3, house.mark(5, 5));
        CHECKS.due("none ahead of state", -1, house.mark(0, -1));
        CHECKS.due("count(7)", 4, house.count(7));
        CHECKS.due("unmark", 4, house.unmark());
        CHECKS.due("mark", 1, house.mark(5, 5));
    }

    private static void matches() {
        CartoonHouse house = new CartoonHouse();
        CHECKS.due("of nothing", 0, house.match(0, 1));
        Checks.stroke(house, 0, "1 0,0 10,0");
        CHECKS.due("alone", 400, house.match(0, 1));
        CHECKS.due("partner", -1, house.partner(0));
        CHECKS.due("alone", 400, house.match(1, 0));
        Checks.stroke(house, 1, "1 3,4 10,2");
        CHECKS.due("match", 29, house.match(0, 1));
        CHECKS.due("partner", 0, house.partner(0));
        Checks.stroke(house, 2, "2 3,4 10,2");
        CHECKS.due("another colour", 129, house.match(0, 2));
        Checks.stroke(house, 3, "1 40,0 10,0");
        CHECKS.due("too far: both alone", 800, house.match(0, 3));
        CHECKS.due("partner", -1, house.partner(0));
        CHECKS.due("itself", 0, house.match(3, 3));
        CHECKS.due("partner", 0, house.partner(0));
        CHECKS.due("wrong", -1, house.match(0, 16));
        CHECKS.due("wrong", -1, house.match(-1, 0));
        CHECKS.due("what was found stays", 0, house.partner(0));
        CHECKS.due("partner", -1, house.partner(1));
        CHECKS.due("partner", -1, house.partner(-1));
        CHECKS.due("partner", -1, house.partner(8));
        house.take(3, 0);
        CHECKS.due("what was found stays", 0, house.partner(0));
        house.tween(0, 3, 1, 2, 5);
        CHECKS.due("a tween finds nothing", 0, house.partner(0));
        // only the first and last POINTS are asked
        CartoonHouse ends = new CartoonHouse();
        Checks.stroke(ends, 0, "1 0,0 40,30 1,0");
        Checks.stroke(ends, 1, "1 0,0 1,0");
        CHECKS.due("match", 0, ends.match(0, 1));
    }

    private static void ties() {
        CartoonHouse house = new CartoonHouse();
        for (int k = 0; k < 3; k++) {
            Checks.stroke(house, 0, "1 5,5 6,6");
            Checks.stroke(house, 1, "1 5,5 6,6");
        }
        CHECKS.due("match", 0, house.match(0, 1));
        for (int k = 0; k < 3; k++) {
            CHECKS.due("partner", k, house.partner(k));
        }
        house.take(1, 0);
        CHECKS.due("match", 400, house.match(0, 1));
        CHECKS.due("partner", 0, house.partner(0));
        CHECKS.due("partner", 1, house.partner(1));
        CHECKS.due("partner", -1, house.partner(2));
        // a COST of 800 is as good as two alone: the pair is less in the row
        CartoonHouse even = new CartoonHouse();
        Checks.stroke(even, 0, "1 0,0 0,10");
        Checks.stroke(even, 1, "1 20,0 20,10");
        CHECKS.due("match", 800, even.match(0, 1));
        CHECKS.due("partner", 0, even.partner(0));
    }

    private static void matchesWithMarks() {
        CartoonHouse house = new CartoonHouse();
        Checks.stroke(house, 0, "1 0,0 10,0");
        Checks.stroke(house, 0, "1 0,20 10,20");
        Checks.stroke(house, 1, "1 0,0 10,0");
        Checks.stroke(house, 1, "1 0,20 10,20");
        house.mark(0, 1);
        CHECKS.due("the other is paired as well or alone", 800 + 800, house.match(0, 1));
        CHECKS.due("partner", 1, house.partner(0));
        CHECKS.due("partner", 0, house.partner(1));
        house.unmark();
        house.mark(0, 2);
        CHECKS.due("no such stroke: no mark", 0, house.match(0, 1));
        house.mark(5, 0);
        CHECKS.due("no such stroke: no mark", 0, house.match(0, 1));
        CHECKS.due("partner", 0, house.partner(0));
        house.mark(1, 1);
        CHECKS.due("as it is", 0, house.match(0, 1));
        house.unmark();
        Checks.stroke(house, 2, "1 47,31 0,31");
        house.mark(1, 0);
        int far = 47 * 47 + 11 * 11 + 10 * 10 + 11 * 11;
        CHECKS.due("far, but marked", far + 400, house.match(0, 2));
        CHECKS.due("partner", -1, house.partner(0));
        CHECKS.due("partner", 0, house.partner(1));
    }

    /** Small drawings at random: all rows of partners are tried here one by one. */
    private static void matchesAgainstAllRows() {
        Random random = new Random(5);
        for (int round = 0; round < 60; round++) {
            CartoonHouse house = new CartoonHouse();
            int first = random.nextInt(5);
            int second = random.nextInt(5);
            int[][] a = strokes(house, 0, first, random);
            int[][] b = strokes(house, 1, second, random);
            int[][] marks = new int[random.nextInt(3)][];
            for (int k = 0; k < marks.length; k++) {
                marks[k] = new int[] {k * 2, random.nextInt(2) * 2 + k};
                house.mark(marks[k][0], marks[k][1]);
            }
            int[] best = null;
            int least = Integer.MAX_VALUE;
            int rows = 1;
            for (int k = 0; k < first; k++) {
                rows *= 9;
            }
            for (int row = 0; row < rows; row++) {
                int[] partners = new int[first];
                for (int k = first - 1, rest = row; k >= 0; k--, rest /= 9) {
                    partners[k] = rest % 9;
                }
                int sum = sumOf(partners, a, b, marks);
                if (sum >= 0 && sum < least) {
                    least = sum;
                    best = partners;
                }
            }
            CHECKS.due("match at random", least, house.match(0, 1));
            for (int k = 0; k < first && best != null; k++) {
                CHECKS.due("partner at random", best[k] == 8 ? -1 : best[k], house.partner(k));
            }
        }
    }

    private static int[][] strokes(CartoonHouse house, int drawing, int many, Random random) {
        int[][] all = new int[many][];
        for (int k = 0; k < many; k++) {
            int[] s = {1 + random.nextInt(2), random.nextInt(24), random.nextInt(9), 24 + random.nextInt(24),
                random.nextInt(9)};
            Checks.stroke(house, drawing, s[0] + " " + s[1] + "," + s[2] + " " + s[3] + "," + s[4]);
            all[k] = s;
        }
        return all;
    }

    private static int sumOf(int[] partners, int[][] a, int[][] b, int[][] marks) {
        for (int[] mark : marks) {
            if (mark[0] < a.length && mark[1] < b.length && partners[mark[0]] != mark[1]) {
                return -1;
            }
        }
        boolean[] isTaken = new boolean[8];
        int sum = 400 * b.length;
        for (int i = 0; i < partners.length; i++) {
            int j = partners[i];
            if (j == 8) {
                sum += 400;
            } else if (j >= b.length || isTaken[j]) {
                return -1;
            } else {
                isTaken[j] = true;
                int cost = a[i][0] == b[j][0] ? 0 : 100;
                for (int k = 1; k <= 4; k++) {
                    cost += (a[i][k] - b[j][k]) * (a[i][k] - b[j][k]);
                }
                sum += cost - 400;
            }
        }
        return sum;
    }

    private static void tweens() {
        CartoonHouse house = new CartoonHouse();
        Checks.stroke(house, 0, "1 0,0 10,0");
        Checks.stroke(house, 0, "2 40,30 47,31");
        Checks.stroke(house, 1, "3 20,2 20,12");
        Checks.stroke(house, 1, "4 4,4 10,5");
        Checks.stroke(house, 2, "9 1,1 2,2");
        CHECKS.due("at 0", 2, house.tween(0, 1, 0, 4, 2));
        CHECKS.due("written", "1 0,0 10,0\n2 40,30 47,31\n", Checks.written(house, 2));
        CHECKS.due("early", 2, house.tween(0, 1, 1, 4, 2));
        CHECKS.due("written", "1 1,1 10,1\n2 40,30 47,31\n", Checks.written(house, 2));
        CHECKS.due("still early", 2, house.tween(0, 1, 9, 20, 2));
        CHECKS.due("written", "1 2,2 10,2\n2 40,30 47,31\n", Checks.written(house, 2));
        CHECKS.due("the half is late", 2, house.tween(0, 1, 2, 4, 2));
        CHECKS.due("written", "4 2,2 10,3\n3 20,2 20,12\n", Checks.written(house, 2));
        CHECKS.due("at the end", 2, house.tween(0, 1, 4, 4, 2));
        CHECKS.due("written", "3 20,2 20,12\n4 4,4 10,5\n", Checks.written(house, 2));
        CHECKS.due("b 1", 2, house.tween(0, 1, 1, 1, 2));
        CHECKS.due("of one and itself", 2, house.tween(0, 0, 12, 24, 2));
        CHECKS.due("written", "1 0,0 10,0\n2 40,30 47,31\n", Checks.written(house, 2));
        house.mark(1, 0);
        CHECKS.due("by a mark", 2, house.tween(0, 1, 1, 2, 2));
        CHECKS.due("written", "4 2,2 10,3\n3 30,16 34,22\n", Checks.written(house, 2));
        house.unmark();
        // FILLS
        Checks.stroke(house, 5, "1 10,10 20,10 20,20 10,20 10,10");
        Checks.stroke(house, 6, "1 10,10 22,10 22,20 10,20 10,10");
        CHECKS.due("fill", 81, house.fill(5, 15, 15, 0, 3));
        CHECKS.due("fill", 99, house.fill(6, 15, 15, 0, 4));
        CHECKS.due("fill", 99, house.fill(6, 16, 15, 0, 5));
        CHECKS.due("tween", 1, house.tween(5, 6, 0, 2, 7));
        CHECKS.due("paint", 3, house.paint(7, 15, 15));
        CHECKS.due("tween", 1, house.tween(5, 6, 1, 3, 7));
        CHECKS.due("region", 90, house.region(7, 0));
        CHECKS.due("region", -1, house.region(7, 1));
        CHECKS.due("tween", 1, house.tween(5, 6, 1, 2, 7));
        CHECKS.due("paint", 5, house.paint(7, 15, 15));
        CHECKS.due("region", 90, house.region(7, 1));
        CHECKS.due("count(1)", 5, house.count(1));
        CHECKS.due("tween of empty ones", 0, house.tween(10, 11, 1, 2, 7));
        CHECKS.due("count(1)", 3, house.count(1));
    }

    private static void tweensOfPoints() {
        CartoonHouse house = new CartoonHouse();
        // 2 POINTS and 4: the first are spread over 4, at thirds
        Checks.stroke(house, 0, "1 0,0 10,0");
        Checks.stroke(house, 1, "1 0,0 3,6 6,6 10,1");
        CHECKS.due("tween", 1, house.tween(0, 1, 1, 2, 2));
        // x: (0+0)/2, (10/3+3)/2 = 3.17, (20/3+6)/2 = 6.33, 10; y: 0, 3, 3, 0.5
        CHECKS.due("written", "1 0,0 3,3 6,3 10,1\n", Checks.written(house, 2));
        // 3 POINTS and 4: 2 * j / 3 with its rest
        Checks.stroke(house, 3, "1 0,0 9,0 9,9");
        Checks.stroke(house, 4, "1 0,0 0,1 0,2 9,9");
        CHECKS.due("tween", 1, house.tween(3, 4, 1, 3, 5));
        // A: 0,0 6,0 9,3 9,9; A + (B - A) / 3
        CHECKS.due("written", "1 0,0 4,0 6,3 9,9\n", Checks.written(house, 5));
        // exact up to the one ROUND: A is 10/3, B is 0: at 3/20 away it is 2.83
        Checks.stroke(house, 6, "1 0,0 10,0");
        Checks.stroke(house, 7, "1 0,0 0,1 0,0 10,0");
        CHECKS.due("tween", 1, house.tween(6, 7, 3, 20, 8));
        CHECKS.due("written", "1 0,0 3,0 6,0 10,0\n", Checks.written(house, 8));
        // POINTS that become alike are left out, and a STROKE of one POINT
        Checks.stroke(house, 9, "1 0,0 10,0");
        Checks.stroke(house, 10, "1 10,0 0,0");
        CHECKS.due("all on one", 0, house.tween(9, 10, 1, 2, 11));
        CHECKS.due("written", 0, house.written(11));
        CHECKS.due("not all on one", 1, house.tween(9, 10, 1, 3, 11));
        CHECKS.due("written", "1 3,0 7,0\n", Checks.written(house, 11));
        Checks.stroke(house, 12, "1 0,0 1,0 2,0 30,0");
        Checks.stroke(house, 13, "1 0,0 0,1 0,0 30,0");
        CHECKS.due("tween", 1, house.tween(12, 13, 3, 4, 14));
        CHECKS.due("written", "1 0,0 0,1 1,0 30,0\n", Checks.written(house, 14));
        CHECKS.due("tween", 1, house.tween(12, 13, 1, 4, 14));
        CHECKS.due("written", "1 0,0 1,0 2,0 30,0\n", Checks.written(house, 14));
        Checks.stroke(house, 15, "2 0,0 1,0 0,0 30,0");
        CHECKS.due("tween", 1, house.tween(15, 13, 8, 24, 14));
        CHECKS.due("two alike, d's colour", "2 0,0 1,0 0,0 30,0\n", Checks.written(house, 14));
        CHECKS.due("tween", 1, house.tween(15, 13, 14, 24, 14));
        CHECKS.due("two alike, the partner's colour", "1 0,0 0,1 0,0 30,0\n", Checks.written(house, 14));
    }

    private static void tweensRefused() {
        CartoonHouse house = new CartoonHouse();
        Checks.stroke(house, 2, "1 0,0 10,0");
        CHECKS.due("into the first", -1, house.tween(0, 1, 1, 2, 0));
        CHECKS.due("into the second", -1, house.tween(0, 1, 1, 2, 1));
        CHECKS.due("into itself", -1, house.tween(2, 2, 1, 2, 2));
        CHECKS.due("b 0", -1, house.tween(0, 1, 0, 0, 2));
        CHECKS.due("b 25", -1, house.tween(0, 1, 1, 25, 2));
        CHECKS.due("a above b", -1, house.tween(0, 1, 3, 2, 2));
        CHECKS.due("a below 0", -1, house.tween(0, 1, -1, 2, 2));
        CHECKS.due("no drawing", -1, house.tween(16, 1, 1, 2, 2));
        CHECKS.due("no drawing", -1, house.tween(0, -1, 1, 2, 2));
        CHECKS.due("no drawing", -1, house.tween(0, 1, 1, 2, 16));
        CHECKS.due("nothing changed", "1 0,0 10,0\n", Checks.written(house, 2));
        // never more than eight: all pairs and all that are alone
        for (int k = 0; k < 8; k++) {
            Checks.stroke(house, 4, "1 0," + k + " 5," + k);
            Checks.stroke(house, 5, "1 40," + k + " 47," + k);
        }
        CHECKS.due("tween", 8, house.tween(4, 5, 1, 3, 6));
        CHECKS.due("tween", 8, house.tween(4, 5, 2, 3, 6));
    }
}
