/** Promises 1 to 4: a new object, feed, end, out; and numbers in texts. */
public final class TextTest {
    private static final Checks CHECKS = new Checks();

    public static void main(String[] args) {
        aNewObject();
        feedAndEnd();
        theTapeIsEmptyBehindTexts();
        theOut();
        numbers();
        CHECKS.end();
    }

    private static void aNewObject() {
        CartoonHouse house = new CartoonHouse();
        for (int what = 0; what <= 9; what++) {
            CHECKS.due("count " + what + " of a new object", 0, house.count(what));
        }
        CHECKS.due("out(0)", -1, house.out(0));
        for (int d = 0; d < 16; d++) {
            CHECKS.due("written", 0, house.written(d));
            CHECKS.due("paint", 0, house.paint(d, 24, 16));
        }
        for (int p = 0; p < 4; p++) {
            for (int c = 1; c <= 15; c++) {
                CHECKS.due("colour", c * 1118481, house.colour(p, c, 7));
            }
        }
        for (int l = 0; l < 4; l++) {
            CHECKS.due("shown", -1, house.shown(l, 0));
            CHECKS.due("told", 0, house.told(l));
            CHECKS.due("depth", 64, house.depth(l, 64));
            CHECKS.due("seen", 30, house.seen(l, 30, 20, 0, 0));
        }
        CHECKS.due("partner", -1, house.partner(0));
        CHECKS.due("letter", 0, house.letter(25));
        CHECKS.due("mouth", -1, house.mouth(0, 0));
        CHECKS.due("played", -3, house.played(0, 0, 0));
        CHECKS.due("mix", 0, house.mix(0));
        CHECKS.due("bone", 0, house.bone(-1, 0, 0, 0));
        CHECKS.due("at", 24, house.at(0, 0, 0));
        CHECKS.due("at", 16, house.at(0, 0, 1));
    }

    private static void feedAndEnd() {
        CartoonHouse house = new CartoonHouse();
        CHECKS.due("end(0)", 0, house.end(0));
        CHECKS.due("end(1)", -1, house.end(1));
        CHECKS.due("end(-1)", -1, house.end(-1));
        for (int k = 1; k <= 80; k++) {
            CHECKS.due("feed", 20 * k, house.feed(0x20202020, 1, 2, 3, -1));
        }
        CHECKS.due("feed", -4, house.feed(1, 2, 3, 4, 5));
        CHECKS.due("count(9)", 1600, house.count(9));
        CHECKS.due("end(1601)", -1, house.end(1601));
        CHECKS.due("end(1600)", 1600, house.end(1600));
        CHECKS.due("end(1581)", 1581, house.end(1581));
        CHECKS.due("feed", -4, house.feed(1, 2, 3, 4, 5));
        CHECKS.due("end(1580)", 1580, house.end(1580));
        CHECKS.due("feed", 1600, house.feed(1, 2, 3, 4, 5));
        CHECKS.due("end(min)", -1, house.end(Integer.MIN_VALUE));
        CHECKS.due("end(max)", -1, house.end(Integer.MAX_VALUE));
        CHECKS.due("end(7)", 7, house.end(7));
        CHECKS.due("count(9)", 7, house.count(9));
        house.end(0);
        // the highest byte of each int comes first
        house.feed(0x3120322c, 0x3320342c, 0x35000000, 0, 0);
        house.end(9);
        CHECKS.due("stroke", 0, house.stroke(0));
        CHECKS.due("written", "1 2,3 4,5\n", Checks.written(house, 0));
        // a text may come in two goes
        house.feed(0x33203131, 0, 0, 0, 0);
        house.end(4);
        house.feed(0x2c313220, 0x31332c31, 0x34000000, 0, 0);
        house.end(13);
        CHECKS.due("stroke", 1, house.stroke(0));
        CHECKS.due("written", "1 2,3 4,5\n3 11,12 13,14\n", Checks.written(house, 0));
    }

    private static void theTapeIsEmptyBehindTexts() {
        CartoonHouse house = new CartoonHouse();
        String[] texts = {"1 0,0 1,1", "!"};
        for (String text : texts) {
            for (int call = 0; call < 9; call++) {
                Checks.text(house, text);
                CHECKS.due("count(9)", text.length(), house.count(9));
                callText(house, call);
                CHECKS.due("count(9) behind text call " + call, 0, house.count(9));
            }
        }
        for (int k = 0; k < 9; k++) {
            Checks.stroke(house, 1, "1 0,0 1,1");
            CHECKS.due("count(9) behind FULL", 0, house.count(9));
        }
        for (int k = 0; k < 11; k++) {
            Checks.node(house, "paper 1");
            CHECKS.due("count(9) behind FULL", 0, house.count(9));
        }
    }

    private static void callText(CartoonHouse house, int call) {
        switch (call) {
            case 0: house.stroke(0); break;
            case 1: house.stroke(16); break;
            case 2: house.sheet(0); break;
            case 3: house.sheet(-1); break;
            case 4: house.language(); break;
            case 5: house.speech(); break;
            case 6: house.node(); break;
            case 7: house.track(0, 0); break;
            default: house.track(3, 0); break;
        }
    }

    private static void theOut() {
        CartoonHouse house = new CartoonHouse();
        CHECKS.due("out(-1)", -1, house.out(-1));
        Checks.stroke(house, 2, "15 47,31 0,0");
        CHECKS.due("written", 13, house.written(2));
        CHECKS.due("out(0)", '1', house.out(0));
        CHECKS.due("out(12)", 10, house.out(12));
        CHECKS.due("out(13)", -1, house.out(13));
        CHECKS.due("out(min)", -1, house.out(Integer.MIN_VALUE));
        CHECKS.due("out(max)", -1, house.out(Integer.MAX_VALUE));
        CHECKS.due("written(16)", -1, house.written(16));
        CHECKS.due("out(0) stays", '1', house.out(0));
        Checks.sheet(house, 0, "7*2");
        CHECKS.due("told", 3, house.told(0));
        CHECKS.due("out", "7*2", Checks.out(house));
        CHECKS.due("written", 0, house.written(0));
        CHECKS.due("out(0)", -1, house.out(0));
        Checks.node(house, "paper 16711935");
        int bytes = house.film(0, 0, 0);
        CHECKS.due("film", 4 * 1536 + 14, bytes);
        CHECKS.due("out(1) is above 127", 255, house.out(1));
        CHECKS.due("out(3)", 255, house.out(3));
        CHECKS.due("the last byte", 255, house.out(bytes - 1));
        CHECKS.due("behind it", -1, house.out(bytes));
    }

    private static void numbers() {
        CartoonHouse house = new CartoonHouse();
        CHECKS.due("empty", -1000, Checks.stroke(house, 0, ""));
        CHECKS.due("no digit", -1000, Checks.stroke(house, 0, "x"));
        CHECKS.due("0 ahead", -1001, Checks.stroke(house, 0, "01 0,0 1,1"));
        CHECKS.due("00", -1003, Checks.stroke(house, 0, "1 00,0 1,1"));
        CHECKS.due("nine digits", -1002, Checks.stroke(house, 0, "1 123456789,0 1,1"));
        CHECKS.due("ten digits", -1011, Checks.stroke(house, 0, "1 1234567890,0 1,1"));
        CHECKS.due("a minus", -1002, Checks.stroke(house, 0, "1 -1,0 1,1"));
        CHECKS.due("-0", -1001, Checks.track(house, 0, 0, "-0"));
        CHECKS.due("--1", -1001, Checks.track(house, 0, 0, "--1"));
        CHECKS.due("- alone", -1001, Checks.track(house, 0, 0, "-"));
        CHECKS.due("- and blank", -1003, Checks.track(house, 0, 0, "1 - 1"));
        CHECKS.due("-01", -1001, Checks.track(house, 0, 0, "-01"));
        CHECKS.due("-101", -1000, Checks.track(house, 0, 0, "-101"));
        CHECKS.due("-1234567890", -1010, Checks.track(house, 0, 0, "-1234567890"));
        CHECKS.due("-123456789", -1000, Checks.track(house, 0, 0, "-123456789"));
        CHECKS.due("a range is asked ahead of what follows", -1000, Checks.track(house, 0, 0, "101x"));
    }
}
