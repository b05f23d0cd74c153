/** Promises 1 to 4 and part I of the terms, at their bounds: a test for each sentence that names one. */
public final class TextBoundsTest {
    private static final Checks CHECKS = new Checks();
    private static final String RIGHT = "1 0,0 1,1";

    public static void main(String[] args) {
        aNewObjectIsEmpty();
        aNewObjectHasWhatTheTermsGive();
        feedTellsHowManyThereAre();
        feedIsFull();
        feedPutsTheHighestByteFirst();
        endKeepsTheFirstBytes();
        endRefuses();
        outIsNothingAtFirst();
        outHasItsBytesAlone();
        outIsWhatWasWrittenLatest();
        outStaysBehindARefusal();
        numbersHaveOneToNineDigits();
        numbersHaveNoZeroAhead();
        intsHaveAMinusButNotOfZero();
        wordsAreAllThatStandsThere();
        textsThatAreTooShort();
        bytesThatAreInNoText();
        whatIsReadFirstIsRefused();
        theTapeIsEmptyBehindATextsCall();
        aTextOfTheWholeTape();
        CHECKS.end();
    }

    private static Script on(String sentence) {
        return new Script(CHECKS, sentence);
    }

    private static void aNewObjectIsEmpty() {
        Script s = on("Promise 1: the state that the terms give, nothing there");
        for (int what = 0; what <= 9; what++) {
            s.due(0, "count", what);
        }
        for (int d = 0; d < 16; d++) {
            s.due(0, "written", d).due(-1, "take", d, 0).due(-1, "unfill", d, 0).due(-1, "region", d, 0);
            s.due(-1000000, "area", d, 0).due(0, "paint", d, 0, 0).due(0, "match", d, d);
        }
        for (int l = 0; l < 4; l++) {
            s.due(-1, "shown", l, 0).due(0, "told", l).due(0, "stretch", l, 20, 1);
        }
        s.due(-1, "out", 0).due(0, "unmark").due(-1, "partner", 0).due(0, "clear").due(0, "end", 0);
        s.due(-1, "angle", 0, 0).due(-100000, "at", 0, 0, 0).due(-1000000000, "swing", 0, 0, 0, 0);
        s.due(-1, "mouth", 0, 0).due(-1, "sample", 0, 0, 0, 0).due(-1, "drawn", 0, 0).due(-1, "flicker", 0, 1);
        s.due(-3, "played", 0, 0, 0).due(0, "mix", 0).due(0, "mix", 999);
    }

    private static void aNewObjectHasWhatTheTermsGive() {
        Script s = on("Promise 1: the state that the terms give, at first");
        for (int p = 0; p < 4; p++) {
            for (int c = 1; c <= 15; c++) {
                s.due(c * 1118481, "colour", p, c, 0);
            }
        }
        for (int k = 0; k < 26; k++) {
            s.due(0, "letter", k);
        }
        for (int l = 0; l < 4; l++) {
            // X 0, Y 0, ZOOM 64
            s.due(47, "seen", l, 47, 31, 119, 0).due(31, "seen", l, 47, 31, 119, 1).due(-1, "cutOff", l, 0, 119);
            s.due(64, "depth", l, 64);
        }
        s.due(0, "bone", -1, 0, 0, 0).due(24, "at", 0, 0, 0).due(16, "at", 0, 0, 1);
        // no WIGGLE: what is drawn stands still
        s.text("1 10,10 14,10").due(0, "stroke", 0).text("0*5").due(5, "sheet", 0).text("layer 0 1").due(0, "node");
        for (int f = 0; f < 5; f++) {
            s.due(5, "drawn", 0, f).due(0, "sample", 0, f, 10, 10).due(-1, "sample", 0, f, 15, 10);
        }
    }

    private static void feedTellsHowManyThereAre() {
        Script s = on("Promise 2: how many there are");
        for (int k = 1; k <= 80; k++) {
            s.due(20 * k, "feed", 0, -1, Integer.MIN_VALUE, Integer.MAX_VALUE, k).due(20 * k, "count", 9);
        }
    }

    private static void feedIsFull() {
        Script s = on("Promise 2: FULL if there would be more than 1,600");
        s.text(RIGHT);
        for (int k = 0; k < 79; k++) {
            s.due(29 + 20 * k, "feed", 1, 2, 3, 4, 5);
        }
        // 1,589 bytes: twenty more would be 1,609
        s.due(-4, "feed", 1, 2, 3, 4, 5).due(1589, "count", 9);
        s.due(1581, "end", 1581).due(-4, "feed", 1, 2, 3, 4, 5).due(1581, "count", 9);
        s.due(1580, "end", 1580).due(1600, "feed", 1, 2, 3, 4, 5).due(-4, "feed", 1, 2, 3, 4, 5);
        s.due(-4, "feed", 0, 0, 0, 0, 0).due(1600, "count", 9);
        // what was there is as it was
        s.due(9, "end", 9).due(0, "stroke", 0).written(0, RIGHT + "\n");
    }

    private static void feedPutsTheHighestByteFirst() {
        Script s = on("Promise 2: behind those on THE TAPE, the highest of each int first");
        s.due(20, "feed", 0x3720312c, 0x3220332c, 0x3420352c, 0x3620372c, 0x38202020);
        s.due(17, "end", 17).due(37, "feed", 0x20392c31, 0x30000000, 0, 0, 0).due(22, "end", 22);
        s.due(0, "stroke", 0).written(0, "7 1,2 3,4 5,6 7,8 9,10\n");
    }

    private static void endKeepsTheFirstBytes() {
        Script s = on("Promise 3: its first n bytes alone: n");
        s.text(RIGHT + " 2,2 3,3 44").due(20, "count", 9).due(20, "end", 20).due(17, "end", 17).due(17, "end", 17);
        s.due(0, "stroke", 0).written(0, "1 0,0 1,1 2,2 3,3\n");
        s.text(RIGHT).due(0, "end", 0).due(0, "count", 9).due(-1000, "stroke", 0);
        s.due(0, "end", 0).due(20, "feed", 0, 0, 0, 0, 0).due(1, "end", 1).due(21, "feed", 0, 0, 0, 0, 0);
    }

    private static void endRefuses() {
        Script s = on("Promise 3: NONE if there are not so many, or n is below 0");
        s.due(-1, "end", 1).due(-1, "end", -1);
        s.text(RIGHT).due(-1, "end", 10).due(-1, "end", -1).due(-1, "end", 20).due(-1, "end", Integer.MIN_VALUE);
        s.due(-1, "end", Integer.MAX_VALUE).due(9, "count", 9).due(0, "stroke", 0).due(-1, "end", 1);
    }

    private static void outIsNothingAtFirst() {
        Script s = on("Promise 4: at first nothing");
        for (int i : new int[] {0, 1, -1, 511, 512, Integer.MIN_VALUE, Integer.MAX_VALUE}) {
            s.due(-1, "out", i);
        }
    }

    private static void outHasItsBytesAlone() {
        Script s = on("Promise 4: NONE if there is none such");
        s.text("15 47,31 0,0").due(0, "stroke", 2).written(2, "15 47,31 0,0\n");
        s.due('1', "out", 0).due(10, "out", 12).due(-1, "out", 13).due(-1, "out", -1);
        s.due(-1, "out", Integer.MIN_VALUE).due(-1, "out", Integer.MAX_VALUE);
    }

    private static void outIsWhatWasWrittenLatest() {
        Script s = on("Promise 4: what was written latest");
        s.text(RIGHT).due(0, "stroke", 0).text("7*2").due(2, "sheet", 0).text("paper 8421504").due(0, "node");
        s.written(0, RIGHT + "\n").told(0, "7*2").written(0, RIGHT + "\n");
        // a film is longer: 1,536 PIXELS of four bytes, seven RUNS of two
        s.due(6158, "film", 0, 5, 5).due(0, "out", 0).due(255, "out", 1).due(1, "out", 2).due(128, "out", 3);
        s.due(128, "out", 6157).due(-1, "out", 6158);
        // shorter again: nothing of the film is left
        s.told(0, "7*2").due(0, "written", 1).due(-1, "out", 0);
    }

    private static void outStaysBehindARefusal() {
        Script s = on("Promise 4: what was written latest, not what was refused");
        s.text("7*2").due(2, "sheet", 0).told(0, "7*2");
        s.due(-1, "written", 16).due(-1, "written", -1).due(-1, "told", 4).due(-1, "told", -1).due(-1, "film", 0, 0, 0);
        s.text("paper 1").due(0, "node").due(-1, "film", 0, 0, 8).due(-1, "film", 0, 1, 0).out("7*2");
    }

    private static void numbersHaveOneToNineDigits() {
        Script s = on("Part I: a NUMBER: 1 to 9 digits; of ten digits at the tenth");
        s.wrong(6, "paper x", "node").wrong(6, "paper ", "node").wrong(6, "paper 123456789", "node");
        s.wrong(15, "paper 1234567890", "node").wrong(15, "paper 9999999999", "node");
        s.wrong(15, "paper 12345678901", "node").wrong(15, "paper 1234567890 x", "node");
        s.wrong(0, "123456789 0,0 1,1", "stroke", 0).wrong(9, "1234567890 0,0 1,1", "stroke", 0);
        s.wrong(2, "1*999999999", "sheet", 0).wrong(11, "1*9999999999", "sheet", 0);
        s.wrong(1, "a999999999", "speech").wrong(10, "a9999999999", "speech");
        s.wrong(9, "2147483648", "track", 0, 0).wrong(10, "-2147483649", "track", 0, 0);
        s.wrong(0, "-999999999", "track", 0, 0);
        s.text("paper 0").due(0, "node").text("paper 16777215").due(1, "node");
    }

    private static void numbersHaveNoZeroAhead() {
        Script s = on("Part I: no 0 ahead of others");
        s.wrong(7, "paper 00", "node").wrong(7, "paper 01", "node").wrong(7, "paper 0000000001", "node");
        s.wrong(1, "01 0,0 1,1", "stroke", 0).wrong(3, "1 00,0 1,1", "stroke", 0).wrong(5, "1 0,01 1,1", "stroke", 0);
        s.wrong(1, "00", "sheet", 0).wrong(3, "1*01", "sheet", 0).wrong(5, "(1)*02", "sheet", 0);
        s.wrong(2, "a05", "speech");
        s.wrong(1, "07", "track", 0, 0).wrong(3, "0 00", "track", 0, 0);
        s.text("paper 10").due(0, "node").text("1 0,0 10,20").due(0, "stroke", 0).text("0*10 10").due(11, "sheet", 0);
    }

    private static void intsHaveAMinusButNotOfZero() {
        Script s = on("Part I: an INT: a NUMBER, perhaps with a - right ahead (not of 0)");
        s.wrong(1, "-0", "track", 0, 0).wrong(1, "-05", "track", 0, 0).wrong(1, "-", "track", 0, 0);
        s.wrong(1, "--1", "track", 0, 0).wrong(1, "- 1", "track", 0, 0).wrong(0, "+1", "track", 0, 0);
        s.wrong(1, "1-", "track", 0, 0).wrong(3, "5 -", "track", 0, 0);
        s.text("paper 1").due(0, "node").wrong(9, "shift 0 - 1", "node").wrong(9, "shift 0 -0 1", "node");
        s.wrong(8, "shift 0 +1 1", "node").wrong(12, "shift 0 -1 -", "node").wrong(8, "sparks -0 0 0 1 0", "node");
        // a NUMBER has none
        s.wrong(6, "shift -1 1 1", "node").wrong(6, "paper -1", "node").wrong(1, "a-1", "speech");
        s.wrong(2, "1*-1", "sheet", 0);
        s.wrong(2, "1 -1,0 1,1", "stroke", 0);
        s.text("shift 0 -1 -60").due(1, "node").text("0 -1 -100").due(3, "track", 0, 0);
    }

    private static void wordsAreAllThatStandsThere() {
        Script s = on("Part I: a WORD: all the small letters and digits that stand there; none of those told: its first byte");
        String[] texts = {"paperx 1", "paper1 1", "pape 1", "p 1", "x 1", "paper12", "layers 0 0", "z9z", "xaper 1", "paped 1"};
        for (String text : texts) {
            s.wrong(0, text, "node");
        }
        s.wrong(0, "1paper 1", "node").wrong(0, "Paper 1", "node").wrong(0, "pApEr 1", "node");
        s.wrong(0, " paper 1", "node");
        s.wrong(5, "paper,1", "node").wrong(5, "paperX1", "node").wrong(5, "paper", "node").wrong(5, "paper`", "node");
        s.wrong(5, "paper{", "node").wrong(5, "paper/", "node").wrong(5, "paper:", "node").due(0, "count", 3);
    }

    private static void textsThatAreTooShort() {
        Script s = on("Part I: its length, if it is too short");
        s.wrong(0, "", "stroke", 0).wrong(1, "1", "stroke", 0).wrong(2, "1 ", "stroke", 0).wrong(3, "1 0", "stroke", 0);
        s.wrong(4, "1 0,", "stroke", 0).wrong(5, "1 0,0", "stroke", 0).wrong(6, "1 0,0 ", "stroke", 0);
        s.wrong(7, "1 0,0 1", "stroke", 0).wrong(8, "1 0,0 1,", "stroke", 0);
        s.wrong(2, "1 ", "sheet", 0).wrong(2, "1*", "sheet", 0).wrong(1, "(", "sheet", 0).wrong(2, "(1", "sheet", 0);
        s.wrong(3, "(1 ", "sheet", 0).wrong(3, "(1*", "sheet", 0).wrong(3, "(1)", "sheet", 0);
        s.wrong(4, "(1)*", "sheet", 0);
        s.wrong(0, "", "language").wrong(1, "a", "language").wrong(2, "a=", "language").wrong(4, "a=1 ", "language");
        s.wrong(0, "", "speech").wrong(1, "a", "speech").wrong(1, ".", "speech").wrong(3, "a1 ", "speech");
        s.wrong(0, "", "node").wrong(4, "blur", "node").wrong(8, "layer 0 ", "node").wrong(7, "layer 0", "node");
        s.wrong(2, "1 ", "track", 0, 0).wrong(1, "-", "track", 0, 0);
    }

    private static void bytesThatAreInNoText() {
        Script s = on("Part I: of texts 10 and 32 .. 126");
        for (char c : new char[] {0, 9, 10, 31, 127, 128, 255}) {
            s.wrong(0, c + "", "stroke", 0).wrong(9, RIGHT + c, "stroke", 0).wrong(1, "1" + c, "sheet", 0);
            s.wrong(0, c + "", "sheet", 0).wrong(1, "a" + c, "language").wrong(2, "a1" + c, "speech");
            s.wrong(5, "paper" + c, "node").wrong(1, "1" + c, "track", 0, 0);
        }
    }

    private static void whatIsReadFirstIsRefused() {
        Script s = on("Part I: the first byte; a NUMBER out of its range at its first byte");
        s.wrong(0, "16 0,0 x", "stroke", 0).wrong(2, "1 48,32 1,1", "stroke", 0).wrong(5, "1 47,32 48,1", "stroke", 0);
        s.wrong(1, "1x 0,0 48,0", "stroke", 0).wrong(0, "16x", "stroke", 0).wrong(0, "0", "stroke", 0);
        s.wrong(0, "16 1*100", "sheet", 0).wrong(4, "1 2 16*0", "sheet", 0).wrong(1, "a0=9", "language");
        s.wrong(2, "a=8 b", "language").wrong(1, "a0 !", "speech").wrong(4, "a1 b100 c", "speech");
        s.wrong(6, "layer 4 4", "node").wrong(8, "layer 3 4 x", "node").wrong(0, "101 x", "track", 0, 0);
        s.wrong(2, "5 -101x", "track", 0, 0).wrong(0, "lyer 4 4", "node");
    }

    private static void theTapeIsEmptyBehindATextsCall() {
        Script s = on("Part I: behind a text's call the tape is empty, whatever it answers");
        s.text(RIGHT).due(0, "stroke", 0).due(0, "count", 9).text("x").due(-1000, "stroke", 0).due(0, "count", 9);
        s.text(RIGHT).due(-1, "stroke", 16).due(0, "count", 9).text("x").due(-1, "stroke", -1).due(0, "count", 9);
        s.text("1").due(1, "sheet", 0).due(0, "count", 9).text("x").due(-1000, "sheet", 0).due(0, "count", 9);
        s.text("1").due(-1, "sheet", 4).due(0, "count", 9).text("1").due(-1, "sheet", -1).due(0, "count", 9);
        s.text("a=1").due(1, "language").due(0, "count", 9).text("x").due(-1001, "language").due(0, "count", 9);
        s.text("a1").due(1, "speech").due(0, "count", 9).text("x").due(-1001, "speech").due(0, "count", 9);
        s.text("paper 1").due(0, "node").due(0, "count", 9).text("x").due(-1000, "node").due(0, "count", 9);
        s.text("1").due(1, "track", 0, 0).due(0, "count", 9).text("x").due(-1000, "track", 0, 0).due(0, "count", 9);
        s.text("1").due(-1, "track", 3, 0).due(0, "count", 9).text("1").due(-1, "track", 0, 1000).due(0, "count", 9);
        for (int k = 1; k < 8; k++) {
            s.text(RIGHT).due(k, "stroke", 0);
        }
        s.text(RIGHT).due(-4, "stroke", 0).due(0, "count", 9);
        for (int k = 1; k < 10; k++) {
            s.text("blur 0").due(k, "node");
        }
        s.text("blur 0").due(-4, "node").due(0, "count", 9);
        // no other call takes anything from the tape
        s.text(RIGHT).due(0, "unmark").due(10, "clear").due(8 * 10, "written", 0).due(-1, "fit", 0, 8, 0);
        s.due(9, "count", 9);
    }

    private static void aTextOfTheWholeTape() {
        Script s = on("Part I: THE TAPE has bytes, at most 1,600, and WRONG may be as far");
        StringBuilder groups = new StringBuilder("aa=1");
        for (int k = 1; k < 400; k++) {
            groups.append(" a=").append(k % 8);
        }
        s.text(groups.toString()).due(1600, "count", 9).due(400, "language").due(7, "letter", 0);
        groups.setCharAt(1599, '8');
        s.text(groups.toString()).due(-2599, "language").due(7, "letter", 0);
        groups.setLength(0);
        for (int k = 0; k < 1600; k++) {
            groups.append('z');
        }
        s.text(groups.toString()).due(-2600, "language").due(0, "letter", 25);
        s.text(groups.toString()).due(-1000, "node");
    }
}
