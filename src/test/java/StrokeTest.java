/** Promises 5 to 11: stroke, take, written, fit, erase, meets, area. */
public final class StrokeTest {
    private static final Checks CHECKS = new Checks();

    public static void main(String[] args) {
        strokes();
        wrongStrokes();
        taking();
        fitting();
        erasing();
        erasingRefused();
        meeting();
        areas();
        CHECKS.end();
    }

    private static void strokes() {
        CartoonHouse house = new CartoonHouse();
        String ten = "15 0,0 1,0 0,0 1,0 0,0 1,0 0,0 1,0 0,0 47,31";
        CHECKS.due("stroke", 0, Checks.stroke(house, 15, ten));
        CHECKS.due("stroke", 1, Checks.stroke(house, 15, "1 47,0 0,31"));
        CHECKS.due("written", ten + "\n1 47,0 0,31\n", Checks.written(house, 15));
        CHECKS.due("written bytes", ten.length() + 13, house.written(15));
        CHECKS.due("written of an empty one", 0, house.written(0));
        CHECKS.due("written", -1, house.written(-1));
        CHECKS.due("written", -1, house.written(16));
        CHECKS.due("no drawing", -1, Checks.stroke(house, 16, "1 0,0 1,1"));
        CHECKS.due("no drawing, wrong", -1, Checks.stroke(house, -1, "nonsense"));
        for (int k = 0; k < 8; k++) {
            CHECKS.due("stroke", k, Checks.stroke(house, 3, "2 0,0 1,1"));
        }
        CHECKS.due("full", -4, Checks.stroke(house, 3, "2 0,0 1,1"));
        CHECKS.due("wrong ahead of full", -1008, Checks.stroke(house, 3, "2 0,0 1,"));
        CHECKS.due("count(0)", 10, house.count(0));
    }

    private static void wrongStrokes() {
        CartoonHouse house = new CartoonHouse();
        CHECKS.due("colour 0", -1000, Checks.stroke(house, 0, "0 0,0 1,1"));
        CHECKS.due("colour 16", -1000, Checks.stroke(house, 0, "16 0,0 1,1"));
        CHECKS.due("colour alone", -1001, Checks.stroke(house, 0, "1"));
        CHECKS.due("no blank", -1001, Checks.stroke(house, 0, "1,0,0 1,1"));
        CHECKS.due("a blank ahead", -1000, Checks.stroke(house, 0, " 1 0,0 1,1"));
        CHECKS.due("a blank at the end", -1002, Checks.stroke(house, 0, "1 "));
        CHECKS.due("one point", -1005, Checks.stroke(house, 0, "1 0,0"));
        CHECKS.due("one point and a blank", -1006, Checks.stroke(house, 0, "1 0,0 "));
        CHECKS.due("two blanks", -1006, Checks.stroke(house, 0, "1 0,0  1,1"));
        CHECKS.due("no comma", -1003, Checks.stroke(house, 0, "1 0 0 1,1"));
        CHECKS.due("no y", -1004, Checks.stroke(house, 0, "1 0,"));
        CHECKS.due("x 48", -1006, Checks.stroke(house, 0, "1 0,0 48,0"));
        CHECKS.due("y 32", -1009, Checks.stroke(house, 0, "1 0,0 47,32"));
        CHECKS.due("like the one before", -1007, Checks.stroke(house, 0, "1 10,0 10,0"));
        CHECKS.due("like it, and more", -1012, Checks.stroke(house, 0, "1 10,0 11,0 11,0 3,3"));
        CHECKS.due("y 32 of one that is like in x", -1010, Checks.stroke(house, 0, "1 10,0 10,32"));
        CHECKS.due("something behind", -1009, Checks.stroke(house, 0, "1 0,0 1,1x"));
        CHECKS.due("a byte 10 behind", -1009, Checks.stroke(house, 0, "1 0,0 1,1\n"));
        CHECKS.due("an eleventh", -1042, Checks.stroke(house, 0, "1 " + Checks.repeat("0,0 1,0", 5) + " 0,0"));
        CHECKS.due("a blank behind ten", -1042, Checks.stroke(house, 0, "1 " + Checks.repeat("0,0 1,0", 5) + " "));
        CHECKS.due("an eleventh that is none", -1042,
                Checks.stroke(house, 0, "1 " + Checks.repeat("0,0 1,0", 5) + " zz"));
        CHECKS.due("none came", 0, house.count(0));
    }

    private static void taking() {
        CartoonHouse house = new CartoonHouse();
        CHECKS.due("take", -1, house.take(0, 0));
        for (int c = 1; c <= 8; c++) {
            Checks.stroke(house, 0, c + " 0,0 1,1");
        }
        CHECKS.due("take", -1, house.take(0, 8));
        CHECKS.due("take", -1, house.take(0, -1));
        CHECKS.due("take", -1, house.take(16, 0));
        CHECKS.due("take", -1, house.take(-1, 0));
        CHECKS.due("take", 7, house.take(0, 7));
        CHECKS.due("take", 6, house.take(0, 0));
        CHECKS.due("take", 5, house.take(0, 2));
        CHECKS.due("written", "2 0,0 1,1\n3 0,0 1,1\n5 0,0 1,1\n6 0,0 1,1\n7 0,0 1,1\n", Checks.written(house, 0));
        CHECKS.due("stroke", 5, Checks.stroke(house, 0, "9 5,5 6,6"));
        CHECKS.due("stroke", 6, Checks.stroke(house, 0, "10 5,5 6,6"));
        CHECKS.due("take", 6, house.take(0, 5));
        CHECKS.due("written", "2 0,0 1,1\n3 0,0 1,1\n5 0,0 1,1\n6 0,0 1,1\n7 0,0 1,1\n10 5,5 6,6\n",
                Checks.written(house, 0));
    }

    private static int fitted(String text, int error) {
        CartoonHouse house = new CartoonHouse();
        Checks.stroke(house, 0, text);
        return house.fit(0, 0, error);
    }

    private static void fitting() {
        CartoonHouse house = new CartoonHouse();
        CHECKS.due("fit", -1, house.fit(0, 0, 0));
        Checks.stroke(house, 0, "4 0,0 2,0 4,0 6,1 8,0 8,5 8,9");
        CHECKS.due("fit", -1, house.fit(0, 0, -1));
        CHECKS.due("fit", -1, house.fit(0, 0, 21));
        CHECKS.due("fit", -1, house.fit(0, 1, 1));
        CHECKS.due("fit", -1, house.fit(16, 0, 1));
        CHECKS.due("fit", 5, house.fit(0, 0, 0));
        CHECKS.due("written", "4 0,0 4,0 6,1 8,0 8,9\n", Checks.written(house, 0));
        CHECKS.due("fit", 3, house.fit(0, 0, 1));
        CHECKS.due("written", "4 0,0 8,0 8,9\n", Checks.written(house, 0));
        CHECKS.due("fit", 2, house.fit(0, 0, 20));
        CHECKS.due("written", "4 0,0 8,9\n", Checks.written(house, 0));
        // the distance is just e: close; a bit more: not
        CHECKS.due("fit", 2, fitted("1 0,0 5,3 10,0", 3));
        CHECKS.due("fit", 3, fitted("1 0,0 5,4 10,0", 3));
        CHECKS.due("fit, slanted", 2, fitted("1 10,20 14,22 20,25", 0));
        CHECKS.due("fit, slanted", 3, fitted("1 10,20 14,23 20,25", 0));
        CHECKS.due("fit, slanted", 2, fitted("1 10,20 14,23 20,25", 1));
        // 4 * 13 - 3 * 1 is 49, and 5 is the length: 9.8 away
        CHECKS.due("fit, slanted", 2, fitted("1 30,10 31,23 34,13", 10));
        CHECKS.due("fit, slanted", 3, fitted("1 30,10 31,23 34,13", 9));
        CHECKS.due("fit, slanted the other way", 2, fitted("1 30,20 29,10 26,17", 10));
        CHECKS.due("fit, slanted the other way", 3, fitted("1 30,20 29,10 26,17", 7));
        // a ring: the last one is like the first one, so another one stays ahead of it
        CHECKS.due("fit of a ring", 3, fitted("1 5,5 6,5 6,6 5,6 5,5", 20));
        house = new CartoonHouse();
        Checks.stroke(house, 1, "1 5,5 6,5 6,6 5,6 5,5");
        house.fit(1, 0, 20);
        CHECKS.due("written", "1 5,5 5,6 5,5\n", Checks.written(house, 1));
        // there and back on one line: a point behind the end of it is as close as any on it
        CHECKS.due("fit there and back", 2, fitted("1 0,0 9,0 5,0", 0));
    }

    private static void erasing() {
        CartoonHouse house = new CartoonHouse();
        Checks.stroke(house, 0, "1 0,0 10,0 20,0 30,0 40,0");
        Checks.stroke(house, 0, "2 0,10 40,10");
        CHECKS.due("nothing there", 0, house.erase(0, 0, 20, 9));
        CHECKS.due("erase", 1, house.erase(0, 15, 2, 2));
        CHECKS.due("written", "1 0,0 10,0\n1 20,0 30,0 40,0\n2 0,10 40,10\n", Checks.written(house, 0));
        CHECKS.due("at a point: both sides go", 2, house.erase(0, 30, 0, 0));
        CHECKS.due("written", "1 0,0 10,0\n2 0,10 40,10\n", Checks.written(house, 0));
        CHECKS.due("erase", 2, house.erase(0, 5, 5, 5));
        CHECKS.due("written", "", Checks.written(house, 0));
        Checks.stroke(house, 0, "7 0,0 10,10");
        CHECKS.due("just off", 0, house.erase(0, 12, 10, 1));
        CHECKS.due("just on", 1, house.erase(0, 11, 10, 1));
        CHECKS.due("wrong ones", -1, house.erase(0, 48, 0, 1));
        CHECKS.due("wrong ones", -1, house.erase(0, 0, 32, 1));
        CHECKS.due("wrong ones", -1, house.erase(0, -1, 0, 1));
        CHECKS.due("wrong ones", -1, house.erase(0, 0, 0, 11));
        CHECKS.due("wrong ones", -1, house.erase(0, 0, 0, -1));
        CHECKS.due("wrong ones", -1, house.erase(16, 0, 0, 1));
        // the LINE's pixels go by ROUND: 0,0 to 3,1 has 0,0 1,0 2,1 3,1
        lineOf("1 0,0 3,1", "0,0 1,0 2,1 3,1");
        // a half is rounded up, so the way back has other pixels than the way there
        lineOf("1 0,0 2,1", "0,0 1,1 2,1");
        lineOf("1 2,1 0,0", "0,0 1,1 2,1");
        lineOf("1 0,1 2,0", "0,1 1,1 2,0");
        lineOf("1 0,0 1,4", "0,0 0,1 1,2 1,3 1,4");
        lineOf("1 1,4 0,0", "0,0 0,1 1,2 1,3 1,4");
        lineOf("1 1,0 0,4", "1,0 1,1 1,2 0,3 0,4");
        lineOf("1 2,2 3,3", "2,2 3,3");
        lineOf("1 3,2 2,2", "2,2 3,2");
    }

    private static void lineOf(String stroke, String pixels) {
        CartoonHouse house = new CartoonHouse();
        Checks.stroke(house, 0, stroke);
        StringBuilder found = new StringBuilder();
        for (int y = 0; y < 6; y++) {
            for (int x = 0; x < 6; x++) {
                if (house.paint(0, x, y) > 0) {
                    found.append(found.length() == 0 ? "" : " ").append(x).append(',').append(y);
                }
            }
        }
        String[] due = pixels.split(" ");
        String[] answer = found.toString().split(" ");
        java.util.Arrays.sort(due);
        java.util.Arrays.sort(answer);
        CHECKS.due("line of " + stroke, String.join(" ", due), String.join(" ", answer));
    }

    private static void erasingRefused() {
        CartoonHouse house = new CartoonHouse();
        for (int k = 0; k < 7; k++) {
            Checks.stroke(house, 0, "3 0," + (k + 10) + " 5," + (k + 10));
        }
        Checks.stroke(house, 0, "1 0,0 10,0 20,0 30,0");
        String before = Checks.written(house, 0);
        CHECKS.due("nine strokes", -4, house.erase(0, 15, 0, 1));
        CHECKS.due("nothing went", before, Checks.written(house, 0));
        CHECKS.due("eight strokes", 2, house.erase(0, 20, 0, 0));
        CHECKS.due("count(0)", 8, house.count(0));
        house.take(0, 0);
        Checks.stroke(house, 0, "1 10,0 20,0 30,0 40,0");
        house.take(0, 0);
        CHECKS.due("eight of seven", 1, house.erase(0, 25, 0, 0));
        CHECKS.due("count(0)", 8, house.count(0));
        // what comes late may make room only if it is counted as a whole: all that stays is counted
        CartoonHouse other = new CartoonHouse();
        Checks.stroke(other, 0, "1 0,0 10,0 20,0 30,0");
        for (int k = 0; k < 7; k++) {
            Checks.stroke(other, 0, "3 0," + (k + 10) + " 5," + (k + 10));
        }
        CHECKS.due("nine strokes, early", -4, other.erase(0, 15, 0, 1));
        CHECKS.due("count(0)", 8, other.count(0));
        // the ninth is followed by a SEGMENT that goes
        other.take(0, 7);
        Checks.stroke(other, 0, "5 10,5 15,5 15,2");
        CHECKS.due("nine strokes, the last one short", -4, other.erase(0, 15, 1, 1));
        CHECKS.due("count(0)", 8, other.count(0));
        other.take(0, 5);
        CHECKS.due("eight strokes, the last one short", 2, other.erase(0, 15, 1, 1));
        CHECKS.due("count(0)", 8, other.count(0));
    }

    private static int meetings(String one, String two) {
        CartoonHouse house = new CartoonHouse();
        Checks.stroke(house, 0, one);
        Checks.stroke(house, 0, two);
        int there = house.meets(0, 0, 1);
        CHECKS.due("meets the other way round", there, house.meets(0, 1, 0));
        return there;
    }

    private static void meeting() {
        CHECKS.due("a cross", 1, meetings("1 0,0 10,10", "1 0,10 10,0"));
        CHECKS.due("a cross between pixels", 1, meetings("1 0,0 1,1", "1 0,1 1,0"));
        CHECKS.due("an end on the middle", 1, meetings("1 0,0 10,10", "1 5,5 9,0"));
        CHECKS.due("an end near the middle", 0, meetings("1 0,0 10,10", "1 6,5 9,0"));
        CHECKS.due("ends", 1, meetings("1 0,0 10,10", "1 10,10 20,3"));
        CHECKS.due("on one line, apart", 0, meetings("1 0,0 4,4", "1 5,5 9,9"));
        CHECKS.due("on one line, at an end", 1, meetings("1 0,0 4,4", "1 4,4 9,9"));
        CHECKS.due("on one line, within", 1, meetings("1 0,0 9,9", "1 4,4 5,5"));
        CHECKS.due("the same", 1, meetings("1 0,0 9,9", "1 9,9 0,0"));
        CHECKS.due("parallel", 0, meetings("1 0,0 9,9", "1 1,0 10,9"));
        CHECKS.due("a T that falls short", 0, meetings("1 0,0 10,0", "1 5,1 5,9"));
        CHECKS.due("boxes meet, lines do not", 0, meetings("1 0,0 10,10", "1 7,0 10,3"));
        CHECKS.due("at a corner two pairs", 2, meetings("1 0,0 5,0 5,5", "1 5,0 9,0"));
        CHECKS.due("corner on corner", 4, meetings("1 0,0 5,0 5,5", "1 9,0 5,0 9,9"));
        CHECKS.due("just beside", 0, meetings("1 0,0 3,2", "1 1,1 4,3"));
        meetingAtRandom();
        CartoonHouse house = new CartoonHouse();
        Checks.stroke(house, 0, "1 0,0 1,1");
        CHECKS.due("itself", -1, house.meets(0, 0, 0));
        CHECKS.due("none", -1, house.meets(0, 0, 1));
        CHECKS.due("none", -1, house.meets(0, 1, 0));
        CHECKS.due("none", -1, house.meets(0, -1, 0));
        CHECKS.due("none", -1, house.meets(16, 0, 1));
    }

    /** Whether lines meet is asked here by where they cross, in whole numbers; parallel ones are left out. */
    private static void meetingAtRandom() {
        java.util.Random random = new java.util.Random(3);
        for (int k = 0; k < 400; k++) {
            int[] n = new int[8];
            for (int j = 0; j < 8; j++) {
                n[j] = 20 + random.nextInt(9);
            }
            int ax = n[2] - n[0];
            int ay = n[3] - n[1];
            int bx = n[6] - n[4];
            int by = n[7] - n[5];
            int whole = ax * by - ay * bx;
            if (whole != 0) {
                int t = ((n[4] - n[0]) * by - (n[5] - n[1]) * bx) * Integer.signum(whole);
                int u = ((n[4] - n[0]) * ay - (n[5] - n[1]) * ax) * Integer.signum(whole);
                boolean isDue = 0 <= t && t <= Math.abs(whole) && 0 <= u && u <= Math.abs(whole);
                CHECKS.due("meets at random", isDue ? 1 : 0,
                        meetings("1 " + n[0] + "," + n[1] + " " + n[2] + "," + n[3],
                                "1 " + n[4] + "," + n[5] + " " + n[6] + "," + n[7]));
            }
        }
    }

    private static void areas() {
        CartoonHouse house = new CartoonHouse();
        Checks.stroke(house, 0, "1 0,0 10,0 10,5 0,5");
        Checks.stroke(house, 0, "1 0,5 10,5 10,0 0,0 0,5");
        Checks.stroke(house, 0, "1 3,4 40,20");
        Checks.stroke(house, 0, "1 1,1 4,1 1,3");
        CHECKS.due("area", 100, house.area(0, 0));
        CHECKS.due("area", -100, house.area(0, 1));
        CHECKS.due("area", 0, house.area(0, 2));
        CHECKS.due("area", 6, house.area(0, 3));
        Checks.stroke(house, 1, "1 5,5 9,5 9,6 9,9 5,9");
        CHECKS.due("fit", 4, house.fit(1, 0, 0));
        CHECKS.due("area of what is left", 32, house.area(1, 0));
        CHECKS.due("area", -1000000, house.area(0, 4));
        CHECKS.due("area", -1000000, house.area(0, -1));
        CHECKS.due("area", -1000000, house.area(16, 0));
    }
}
