import java.lang.reflect.InvocationTargetException;
import java.lang.reflect.Method;
import java.util.ArrayList;
import java.util.Arrays;
import java.util.List;
import java.util.Map;
import java.util.Random;
import java.util.TreeMap;

/** Runs of 512 calls at random, at and about the bounds, each answered by the class and by the model. */
public final class LongRunTest {
    private static final int CALLS = 512;
    private static final int RUNS = 400;
    /** Calls that go together; a run keeps to one or two of these rows, so that it gets far. */
    private static final String[][] THEMES = {
        {"stroke", "stroke", "stroke", "take", "written", "fit", "erase", "meets", "area", "out", "count"},
        {"stroke", "fill", "fill", "fill", "unfill", "region", "paint", "erase", "take", "count", "tween"},
        {"sheet", "sheet", "shown", "stretch", "told", "out", "out"},
        {"stroke", "stroke", "stroke", "mark", "unmark", "match", "partner", "tween", "written", "out", "take"},
        {"bone", "bone", "pivot", "key", "key", "key", "angle", "at", "reach", "swing", "count"},
        {"language", "letter", "speech", "speech", "mouth", "mouth", "blink", "count"},
        {"camera", "camera", "camera", "depth", "seen", "cutOff", "wiggle", "count"},
        {"stroke", "fill", "sheet", "node", "node", "sample", "drawn", "colour", "camera", "depth", "wiggle", "clear",
            "film", "played", "flicker", "out", "count"},
        {"node", "node", "node", "sample", "drawn", "film", "played", "played", "flicker", "out", "clear"},
        {"track", "track", "mix", "mix", "mix", "feed", "end", "count"}};
    /** The least and greatest value of each argument. */
    private static final String[] RANGES = {"feed 0:0 0:0 0:0 0:0 0:0", "end 0:1600", "out 0:400", "stroke 0:3",
        "take 0:3 0:7", "written 0:3", "fit 0:3 0:7 0:20", "erase 0:3 0:47 0:31 0:10", "meets 0:3 0:7 0:7", "area 0:3 0:7",
        "fill 0:3 1:46 1:30 0:8 1:15", "unfill 0:3 0:5", "region 0:3 0:5", "paint 0:3 0:47 0:31", "colour 0:3 1:15 0:16777215",
        "sheet 0:3", "shown 0:3 0:119", "stretch 0:3 1:20 1:20", "told 0:3", "mark 0:7 0:7", "unmark", "match 0:3 0:3",
        "partner 0:7", "tween 0:3 0:3 0:24 1:24 0:3", "bone -1:9 0:40 0:31 0:31", "pivot -400:400 -400:400",
        "key 0:9 0:119 0:31", "angle 0:9 0:119", "at 0:9 0:119 0:1", "reach 0:9 0:119 -400:400 -400:400",
        "swing 0:9 0:119 0:16 0:16", "language", "letter 0:25", "speech", "mouth 0:40 0:2", "blink -9:9 0:9999",
        "camera 0:119 -400:400 -400:400 16:256", "depth 0:3 16:1024", "seen 0:3 -400:400 -400:400 0:119 0:1",
        "cutOff 0:3 0:119 0:119", "wiggle 0:3 -9:9 0:24 0:3", "node", "clear", "sample 0:9 0:119 0:47 0:31",
        "drawn 0:9 0:119", "film 0:9 0:119 0:119", "played 0:7 0:47 0:31", "flicker 0:9 1:118", "track 0:2 0:999",
        "mix 0:1100", "count 0:9"};
    private static final String LETTERS = " ,*()-=.0123456789abz\n~A";

    private final Checks checks;
    private final Random random;
    private final int seed;
    private final CartoonHouse house = new CartoonHouse();
    private final Model model = new Model();
    private final Map<String, Method> methods = new TreeMap<>();
    private final Map<String, int[][]> ranges = new TreeMap<>();
    private final StringBuilder latest = new StringBuilder();
    private int calls;
    private boolean isWrong;

    private LongRunTest(Checks checks, int seed) {
        this.checks = checks;
        this.seed = seed;
        random = new Random(seed);
        for (Method method : CartoonHouse.class.getDeclaredMethods()) {
            methods.put(method.getName(), method);
        }
        for (String line : RANGES) {
            String[] parts = line.split("[ :]");
            int[][] all = new int[parts.length / 2][];
            for (int k = 0; k < all.length; k++) {
                all[k] = new int[] {Integer.parseInt(parts[2 * k + 1]), Integer.parseInt(parts[2 * k + 2])};
            }
            ranges.put(parts[0], all);
        }
    }

    public static void main(String[] args) throws IllegalAccessException {
        Checks checks = new Checks();
        for (int seed = 0; seed < RUNS; seed++) {
            new LongRunTest(checks, seed).run();
        }
        checks.end();
    }

    private void run() throws IllegalAccessException {
        List<String> names = new ArrayList<>(Arrays.asList(THEMES[seed % THEMES.length]));
        if (random.nextInt(3) == 0) {
            names.addAll(Arrays.asList(THEMES[random.nextInt(THEMES.length)]));
        }
        while (calls < CALLS && !isWrong) {
            String name = names.get(random.nextInt(names.size()));
            if ("stroke sheet language speech node track".contains(name)) {
                feedText(textFor(name));
            }
            call(name, arguments(name));
        }
    }

    private void call(String name, int... values) throws IllegalAccessException {
        if (calls == CALLS || isWrong) {
            return;
        }
        calls++;
        String told = name + Arrays.toString(values);
        latest.append(told).append('\n');
        int due = model.call(name, values);
        Object[] boxed = Arrays.stream(values).boxed().toArray();
        try {
            int answer = (Integer) methods.get(name).invoke(house, boxed);
            isWrong = answer != due;
            checks.due("run " + seed + ", call " + calls + ", " + told, due, answer);
        } catch (InvocationTargetException thrown) {
            isWrong = true;
            checks.due("run " + seed + ", call " + calls + ", " + told, "no exception", thrown.getCause().toString());
        }
        if (isWrong) {
            System.out.println(latest);
        }
    }

    private void feedText(String text) throws IllegalAccessException {
        int length = model.call("count", 9) + text.length();
        for (int k = 0; k < text.length(); k += 20) {
            int[] values = new int[5];
            for (int j = 0; j < 20; j++) {
                values[j / 4] = values[j / 4] << 8 | (k + j < text.length() ? text.charAt(k + j) : 0);
            }
            call("feed", values);
        }
        call("end", length);
    }

    private int[] arguments(String name) {
        int[][] all = ranges.get(name);
        int[] values = new int[all.length];
        boolean isAtBounds = random.nextInt(4) == 0;
        for (int k = 0; k < values.length; k++) {
            values[k] = isAtBounds && random.nextInt(2) == 0 ? bound(all[k][0], all[k][1]) : within(all[k][0], all[k][1]);
        }
        fitTogether(name, values);
        return values;
    }

    private int within(int low, int high) {
        // small ones more often: few things are there at first
        int most = random.nextInt(3) == 0 && high > low + 2 ? low + 2 : high;
        return low + random.nextInt(most - low + 1);
    }

    private int bound(int low, int high) {
        int[] bounds = {low - 1, low, high, high + 1, low, high, Integer.MIN_VALUE, Integer.MAX_VALUE};
        return bounds[random.nextInt(bounds.length)];
    }

    /** Most of the time what must go by other arguments, or by what is there, does so. */
    private void fitTogether(String name, int[] values) {
        if (random.nextInt(8) == 0) {
            return;
        }
        if (name.equals("bone")) {
            int bones = model.call("count", 2);
            values[0] = bones == 0 ? -1 : random.nextInt(bones);
            values[3] = Math.max(values[2], values[3]);
        } else if (name.equals("film")) {
            values[2] = Math.min(119, values[1] + random.nextInt(9));
        } else if (name.equals("cutOff")) {
            values[2] = Math.max(values[1], values[2]);
        } else if (name.equals("tween")) {
            values[2] = values[3] > 0 ? random.nextInt(values[3]) + random.nextInt(2) : values[2];
        } else if (name.equals("reach")) {
            values[2] = values[2] / 8 + 24;
            values[3] = values[3] / 8 + 16;
        } else if (name.equals("key") || name.equals("camera")) {
            int frame = name.equals("key") ? 1 : 0;
            values[frame] = random.nextInt(12) * 10;
            if (frame == 0 && random.nextInt(3) == 0) {
                values[3] = 0;
            }
        } else if (name.equals("fill")) {
            values[1] = 6 + random.nextInt(30);
            values[2] = 6 + random.nextInt(20);
        }
    }

    private String textFor(String name) {
        String text;
        switch (name) {
            case "stroke": text = strokeText(); break;
            case "sheet": text = sheetText(); break;
            case "language": text = languageText(); break;
            case "speech": text = speechText(); break;
            case "node": text = nodeText(); break;
            default: text = trackText(); break;
        }
        return random.nextInt(6) == 0 ? spoiled(text) : text;
    }

    private String spoiled(String text) {
        StringBuilder all = new StringBuilder(text);
        int at = random.nextInt(text.length() + 1);
        char c = LETTERS.charAt(random.nextInt(LETTERS.length()));
        switch (random.nextInt(4)) {
            case 0: all.insert(at, c); break;
            case 1: all.setLength(at); break;
            case 2: all.append(c); break;
            default: all.replace(at, Math.min(at + 1, text.length()), String.valueOf(c)); break;
        }
        return all.toString();
    }

    private String strokeText() {
        int colour = 1 + random.nextInt(random.nextInt(9) == 0 ? 16 : 3);
        int x = random.nextInt(20);
        int y = random.nextInt(12);
        int u = x + 2 + random.nextInt(26);
        int v = y + 2 + random.nextInt(18);
        int shape = random.nextInt(4);
        if (shape < 2) {
            int short_ = shape == 0 ? 0 : Math.min(random.nextInt(10), v - y - 1);
            return colour + " " + x + "," + y + " " + u + "," + y + " " + u + "," + v + " " + x + "," + v + " " + x + ","
                    + (y + short_);
        }
        int points = shape == 2 ? 2 + random.nextInt(2) : 2 + random.nextInt(10);
        StringBuilder all = new StringBuilder().append(colour);
        for (int k = 0; k < points; k++) {
            all.append(' ').append(random.nextInt(48)).append(',').append(random.nextInt(32));
        }
        return all.toString();
    }

    private String itemText() {
        String what = random.nextInt(4) == 0 ? "-" : String.valueOf(random.nextInt(4));
        int times = random.nextInt(3) == 0 ? 1 + random.nextInt(random.nextInt(4) == 0 ? 99 : 20) : 0;
        return times == 0 ? what : what + "*" + times;
    }

    private String sheetText() {
        StringBuilder all = new StringBuilder();
        for (int items = random.nextInt(8); items > 0; items--) {
            all.append(all.length() > 0 ? " " : "");
            if (random.nextInt(4) == 0) {
                all.append('(').append(itemText());
                for (int k = random.nextInt(3); k > 0; k--) {
                    all.append(' ').append(itemText());
                }
                all.append(")*").append(1 + random.nextInt(random.nextInt(3) == 0 ? 20 : 4));
            } else {
                all.append(itemText());
            }
        }
        return all.toString();
    }

    private String languageText() {
        StringBuilder all = new StringBuilder();
        for (int groups = 1 + random.nextInt(4); groups > 0; groups--) {
            all.append(all.length() > 0 ? " " : "");
            for (int k = 1 + random.nextInt(4); k > 0; k--) {
                all.append((char) ('a' + random.nextInt(random.nextInt(4) == 0 ? 26 : 5)));
            }
            all.append('=').append(random.nextInt(8));
        }
        return all.toString();
    }

    private String speechText() {
        StringBuilder all = new StringBuilder();
        for (int sounds = 1 + random.nextInt(20); sounds > 0; sounds--) {
            all.append(all.length() > 0 ? " " : "");
            all.append(random.nextInt(6) == 0 ? '.' : (char) ('a' + random.nextInt(6)));
            all.append(random.nextInt(2) == 0 ? 1 : 1 + random.nextInt(random.nextInt(6) == 0 ? 99 : 6));
        }
        return all.toString();
    }

    private String nodeText() {
        int some = Math.max(1, model.call("count", 3) + random.nextInt(12) / 11);
        int a = random.nextInt(some);
        int b = random.nextInt(some);
        switch (random.nextInt(9)) {
            case 0: return "paper " + random.nextInt(16777216);
            case 1: return "over " + a + " " + b;
            case 2: return "shift " + a + " " + (random.nextInt(122) - 61) + " " + (random.nextInt(21) - 10);
            case 3: return "matte " + a + " " + b;
            case 4: return "fade " + a + " " + b + " " + random.nextInt(5) + " " + (3 + random.nextInt(117));
            case 5: return "blur " + a;
            case 6: return "sparks " + (random.nextInt(199999) - 99999) + " " + random.nextInt(48) + " "
                    + random.nextInt(32) + " " + (1 + random.nextInt(20)) + " " + random.nextInt(16777216);
            default: return "layer " + random.nextInt(4) + " " + random.nextInt(4);
        }
    }

    private String trackText() {
        StringBuilder all = new StringBuilder();
        for (int k = random.nextInt(random.nextInt(6) == 0 ? 102 : 12); k > 0; k--) {
            all.append(all.length() > 0 ? " " : "").append(random.nextInt(201) - 100);
        }
        return all.toString();
    }
}
