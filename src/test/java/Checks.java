/** What the tests share: texts are fed to a house, and answers that are not due are told. */
final class Checks {
    private int wrongs;

    /** THE TAPE, which is empty, has a text then. */
    static void text(CartoonHouse house, String text) {
        int length = text.length();
        for (int k = 0; k < length; k += 20) {
            house.feed(four(text, k), four(text, k + 4), four(text, k + 8), four(text, k + 12), four(text, k + 16));
        }
        house.end(length);
    }

    private static int four(String text, int k) {
        int value = 0;
        for (int j = k; j < k + 4; j++) {
            value = value << 8 | (j < text.length() ? text.charAt(j) & 255 : 'Z');
        }
        return value;
    }

    static int stroke(CartoonHouse house, int drawing, String text) {
        text(house, text);
        return house.stroke(drawing);
    }

    static int sheet(CartoonHouse house, int layer, String text) {
        text(house, text);
        return house.sheet(layer);
    }

    static int language(CartoonHouse house, String text) {
        text(house, text);
        return house.language();
    }

    static int speech(CartoonHouse house, String text) {
        text(house, text);
        return house.speech();
    }

    static int node(CartoonHouse house, String text) {
        text(house, text);
        return house.node();
    }

    static int track(CartoonHouse house, int track, int begin, String text) {
        text(house, text);
        return house.track(track, begin);
    }

    /** THE OUT as a text. */
    static String out(CartoonHouse house) {
        StringBuilder all = new StringBuilder();
        for (int k = 0; house.out(k) >= 0; k++) {
            all.append((char) house.out(k));
        }
        return all.toString();
    }

    static String written(CartoonHouse house, int drawing) {
        house.written(drawing);
        return out(house);
    }

    static String told(CartoonHouse house, int layer) {
        house.told(layer);
        return out(house);
    }

    static String repeat(String item, int times) {
        StringBuilder all = new StringBuilder(item);
        for (int k = 1; k < times; k++) {
            all.append(' ').append(item);
        }
        return all.toString();
    }

    void due(String call, int due, int answer) {
        if (due != answer) {
            tell(call, Integer.toString(due), Integer.toString(answer));
        }
    }

    void due(String call, String due, String answer) {
        if (!due.equals(answer)) {
            tell(call, due, answer);
        }
    }

    private void tell(String call, String due, String answer) {
        wrongs++;
        System.out.println(call + ": due is " + due + ", the answer was " + answer);
    }

    void end() {
        if (wrongs > 0) {
            System.exit(1);
        }
    }
}
