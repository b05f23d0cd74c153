import java.util.regex.Matcher;
import java.util.regex.Pattern;

/**
 * All short texts over a few letters, and where they go wrong by their form: that place is found here by a
 * pattern, which tells of each beginning of a text whether it can go on to be right.
 */
public final class FormTest {
    private static final Checks CHECKS = new Checks();
    private static final String NUMBER = "(0|[1-9][0-9]{0,8})";
    private static final String INT = "(0|-?[1-9][0-9]{0,8})";
    private static final String SIMPLE = "(" + NUMBER + "|-)(\\*" + NUMBER + ")?";
    private static final String ITEM = "(" + SIMPLE + "|\\(" + SIMPLE + "( " + SIMPLE + ")*\\)\\*" + NUMBER + ")";
    private static final String SOUND = "[a-z.]" + NUMBER;
    private static final String GROUP = "[a-z]+=[0-7]";

    private final String call;
    private final Pattern form;
    /** Texts that have such a part may be refused for what they mean, ahead of where their form goes wrong. */
    private final Pattern doubtful;
    private CartoonHouse house;
    private int asked;

    private FormTest(String call, String form, String doubtful) {
        this.call = call;
        this.form = Pattern.compile(form);
        this.doubtful = Pattern.compile(doubtful);
    }

    public static void main(String[] args) {
        new FormTest("stroke", NUMBER + "( " + NUMBER + "," + NUMBER + "){2,}", "[0-9]{2}|(.),(.) \\1,\\2").ask("", "12, ", 9);
        new FormTest("stroke", NUMBER + "( " + NUMBER + "," + NUMBER + "){2,}", "[0-9]{2}|(.),(.) \\1,\\2").ask("1 3,2 ", "12, 0x", 6);
        new FormTest("sheet", "(" + ITEM + "( " + ITEM + ")*)?", "[0-9]{3}").ask("", "1*()- ", 7);
        new FormTest("sheet", "(" + ITEM + "( " + ITEM + ")*)?", "[0-9]{3}|\\*0|5[0-9]").ask("(5", "10*) x", 6);
        new FormTest("language", GROUP + "( " + GROUP + ")*", "!").ask("", "az=18 ", 7);
        new FormTest("speech", SOUND + "( " + SOUND + ")*", "[0-9]{3}|[a-z.]0").ask("", "z.10 ", 8);
        new FormTest("track", "(" + INT + "( " + INT + ")*)?", "[0-9]{3}").ask("", "10- x", 7);
        new FormTest("node", "blur " + NUMBER, "[0-9]{2}|^blur[0-9a-z]").ask("blur", "10 -x", 5);
        new FormTest("node", "layer " + NUMBER + " " + NUMBER, "[0-9]{2}|^layer[0-9a-z]").ask("layer", "10 -x", 6);
        new FormTest("node", "shift " + NUMBER + " " + INT + " " + INT, "[0-9]{3}|shift 1[01]|^shift[0-9]").ask("shift", "10 -", 8);
        new FormTest("node", "fade " + NUMBER + " " + NUMBER + " " + NUMBER + " " + NUMBER, "[0-9]{2}|fade . . [1-9] [0-3]|fade . . . 0").ask("fade 1 0", "03 -", 6);
        CHECKS.end();
    }

    /** All texts that begin so and have up to so many letters more. */
    private void ask(String begin, String letters, int more) {
        check(begin);
        for (int k = 0; k < letters.length() && more > 0; k++) {
            ask(begin + letters.charAt(k), letters, more - 1);
        }
    }

    private void check(String text) {
        int place = placeByForm(text);
        int answer = answer(text);
        boolean isDoubtful = doubtful.matcher(text).find();
        if (isDoubtful) {
            boolean isFine = place < 0 || answer <= -1000 && answer >= -1000 - place;
            CHECKS.due(call + " of " + text, 1, isFine ? 1 : 0);
        } else if (place < 0) {
            CHECKS.due(call + " of " + text, 1, answer >= 0 || answer == CartoonHouse.FULL ? 1 : 0);
        } else {
            CHECKS.due(call + " of " + text, -1000 - place, answer);
        }
    }

    /** Below 0 if the form is right. */
    private int placeByForm(String text) {
        for (int k = 1; k <= text.length(); k++) {
            Matcher matcher = form.matcher(text.substring(0, k));
            if (!matcher.matches() && !matcher.hitEnd()) {
                return k - 1;
            }
        }
        return form.matcher(text).matches() ? -1 : text.length();
    }

    private int answer(String text) {
        if (asked % 120 == 0) {
            house = new CartoonHouse();
            Checks.node(house, "paper 1");
            Checks.node(house, "paper 2");
        }
        asked++;
        Checks.text(house, text);
        switch (call) {
            case "stroke": return house.stroke(asked % 16);
            case "sheet": return house.sheet(asked % 4);
            case "language": return house.language();
            case "speech": return house.speech();
            case "track": return house.track(asked % 3, asked % 1000);
            default: return house.node();
        }
    }
}
