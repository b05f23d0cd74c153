/** Promises 33 to 37: language, letter, speech, mouth, blink. */
public final class LipsTest {
    private static final Checks CHECKS = new Checks();

    public static void main(String[] args) {
        languages();
        wrongLanguages();
        speeches();
        wrongSpeeches();
        blinks();
        CHECKS.end();
    }

    private static void languages() {
        CartoonHouse house = new CartoonHouse();
        CHECKS.due("language", 1, Checks.language(house, "abz=7"));
        CHECKS.due("letter", 7, house.letter(0));
        CHECKS.due("letter", 7, house.letter(1));
        CHECKS.due("letter", 0, house.letter(2));
        CHECKS.due("letter", 7, house.letter(25));
        CHECKS.due("others stay, the last one told", 3, Checks.language(house, "bc=3 c=4 aa=0"));
        CHECKS.due("letter", 0, house.letter(0));
        CHECKS.due("letter", 3, house.letter(1));
        CHECKS.due("letter", 4, house.letter(2));
        CHECKS.due("letter", 7, house.letter(25));
        CHECKS.due("letter", -1, house.letter(26));
        CHECKS.due("letter", -1, house.letter(-1));
        CHECKS.due("as many groups as there is room for", 400, Checks.language(house, Checks.repeat("a=1", 400)));
    }

    private static void wrongLanguages() {
        CartoonHouse house = new CartoonHouse();
        String[] texts = {"", "=1", "a", "a=", "a=8", "a=9 b=1", "a=12", "a=1 ", "a=1  b=1", " a=1", "a=1,b=2", "A=1",
            "a b=1", "a=x", "ab=1 c", "a=1\n", "a1=1", "b=1 {=1", "b=1 `=1"};
        int[] places = {0, 0, 1, 2, 2, 2, 3, 4, 4, 0, 3, 0,
            1, 2, 6, 3, 1, 4, 4};
        for (int k = 0; k < texts.length; k++) {
            CHECKS.due("language " + texts[k], -1000 - places[k], Checks.language(house, texts[k]));
        }
        CHECKS.due("language", 1, Checks.language(house, "q=0"));
        for (int k = 0; k < 26; k++) {
            CHECKS.due("nothing changed", 0, house.letter(k));
        }
    }

    /** The MOUTHS with their lengths, first FRAMES asked as well. */
    private static String mouths(CartoonHouse house) {
        StringBuilder all = new StringBuilder();
        int first = 0;
        for (int k = 0; k < house.count(6); k++) {
            CHECKS.due("first frame", first, house.mouth(k, 1));
            first += house.mouth(k, 2);
            all.append(k > 0 ? " " : "").append(house.mouth(k, 0)).append('*').append(house.mouth(k, 2));
        }
        return all.toString();
    }

    private static void says(String speech, String due) {
        CartoonHouse house = new CartoonHouse();
        Checks.language(house, "a=1 b=2 c=3 d=4 h=2");
        CHECKS.due("speech " + speech, due.split(" ").length, Checks.speech(house, speech));
        CHECKS.due("speech " + speech, due, mouths(house));
    }

    private static void speeches() {
        says("a5", "1*5");
        says("a1", "1*1");
        says(".99", "0*99");
        says("a5 b3 .2 c99", "1*5 2*3 0*2 3*99");
        says("a5 a3 b2 h9", "1*8 2*11");
        says("z3 .4", "0*7");
        says("a1 b1 a1", "2*3");
        says("a1 b5", "2*6");
        says("a5 b1", "1*6");
        says("a5 b1 c5", "1*5 3*6");
        says("a5 b1 a5", "1*11");
        says("a1 b1", "2*2");
        says("a1 b1 c1", "2*3");
        says("a1 b1 c1 d1", "2*2 4*2");
        says("a2 b1 c1 d1", "1*2 3*3");
        says("a2 b1 c1 a1", "1*2 3*3");
        says("a2 b1 h1 a2", "1*2 2*2 1*2");
        says("a3 b2 c1 b2 d1", "1*3 2*6");
        CartoonHouse house = new CartoonHouse();
        Checks.language(house, "a=1 b=2");
        CHECKS.due("speech", 2, Checks.speech(house, "a60 b60"));
        Checks.language(house, "ab=5");
        CHECKS.due("by the language as it was then", "1*60 2*60", mouths(house));
        CHECKS.due("wrong", -1003, Checks.speech(house, "a2 !"));
        CHECKS.due("stays", "1*60 2*60", mouths(house));
        CHECKS.due("none", -1, house.mouth(2, 0));
        CHECKS.due("none", -1, house.mouth(-1, 0));
        CHECKS.due("another what", -1, house.mouth(0, 3));
        CHECKS.due("another what", -1, house.mouth(0, -1));
        CHECKS.due("in place of another one", 1, Checks.speech(house, "a60 b60"));
        CHECKS.due("mouths", "5*120", mouths(house));
        CHECKS.due("120 sounds", 1, Checks.speech(house, Checks.repeat("a1", 120)));
        CHECKS.due("mouths", "5*120", mouths(house));
    }

    private static void wrongSpeeches() {
        CartoonHouse house = new CartoonHouse();
        String[] texts = {"", "a", "1", "a0", "a100", "a01", "a1 ", "a1  b1", "a1b1", ".", ". 1", "A1", "a1\n", "a-1",
            "a99 b22", "a99 b21 c1", "a99 b100", "a99 b22x", "a60 b60 c", "a1234567890", "a123456789", "{1"};
        int[] places = {0, 1, 0, 1, 1, 2, 3, 3, 2, 1, 1, 0, 2, 1,
            4, 8, 5, 4, 9, 10, 1, 0};
        for (int k = 0; k < texts.length; k++) {
            CHECKS.due("speech " + texts[k], -1000 - places[k], Checks.speech(house, texts[k]));
        }
        CHECKS.due("121 sounds", -1360, Checks.speech(house, Checks.repeat("a1", 121)));
        CHECKS.due("count(6)", 0, house.count(6));
    }

    private static void blinks() {
        CartoonHouse house = new CartoonHouse();
        int[] seeds = {0, 1, -1, 7, 123456789, Integer.MIN_VALUE, Integer.MAX_VALUE};
        for (int seed : seeds) {
            boolean[] isShut = new boolean[10000];
            int state = seed;
            int begin = 0;
            for (int k = 0; begin < 10000; k++) {
                state = state * 1103515245 + 12345;
                begin += k == 0 ? 20 + (state >>> 16) % 32 : 24 + (state >>> 16) % 64;
                for (int f = begin; f < begin + 3 && f < 10000; f++) {
                    isShut[f] = true;
                }
            }
            for (int f = 0; f < 10000; f += f < 400 || f > 9800 ? 1 : 7) {
                CHECKS.due("blink " + seed + " " + f, isShut[f] ? 1 : 0, house.blink(seed, f));
            }
        }
        // seed 0: R is 12345, the draw 0: the first blink is at 20
        CHECKS.due("blink", 0, house.blink(0, 19));
        CHECKS.due("blink", 1, house.blink(0, 20));
        CHECKS.due("blink", 1, house.blink(0, 22));
        CHECKS.due("blink", 0, house.blink(0, 23));
        CHECKS.due("blink", -1, house.blink(0, -1));
        CHECKS.due("blink", -1, house.blink(0, 10000));
    }
}
