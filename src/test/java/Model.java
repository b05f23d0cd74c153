import java.util.ArrayList;
import java.util.Arrays;
import java.util.List;
import java.util.TreeMap;

/**
 * The document once more, in the plainest way and apart from the class: slow, with lists and maps. Long runs
 * of calls are answered by both.
 */
final class Model {
    private static final int NONE = -1;
    private static final int STATE = -3;
    private static final int FULL = -4;
    private static final int OPEN = -5;

    /** A COLOUR and POINTS. */
    private static final class Line {
        final int colour;
        final List<int[]> points;

        Line(int colour, List<int[]> points) {
            this.colour = colour;
            this.points = points;
        }

        int[] first() {
            return points.get(0);
        }

        int[] last() {
            return points.get(points.size() - 1);
        }
    }

    /** STROKES, and FILLS as rows of x, y, GAP, COLOUR. */
    private static final class Sheet {
        List<Line> lines = new ArrayList<>();
        List<int[]> fills = new ArrayList<>();
    }

    /** A text that is wrong at a place. */
    private static final class Wrong extends Exception {
        private static final long serialVersionUID = 1;
        final int place;

        Wrong(int place) {
            this.place = place;
        }
    }

    /** What reads a text from the left. */
    private interface Reading {
        int read(Reader reader) throws Wrong;
    }

    private static final class Reader {
        final String text;
        int at;

        Reader(String text) {
            this.text = text;
        }

        boolean ends() {
            return at == text.length();
        }

        boolean sees(char c) {
            return !ends() && text.charAt(at) == c;
        }

        boolean sees(String any) {
            return !ends() && any.indexOf(text.charAt(at)) >= 0;
        }

        void want(char c) throws Wrong {
            if (!sees(c)) {
                throw new Wrong(at);
            }
            at++;
        }

        int number(int low, int high) throws Wrong {
            return digits(at, 1, low, high);
        }

        int whole(int low, int high) throws Wrong {
            int begin = at;
            if (!sees('-')) {
                return number(low, high);
            }
            at++;
            if (sees('0')) {
                throw new Wrong(at);
            }
            return digits(begin, -1, low, high);
        }

        private int digits(int begin, int sign, int low, int high) throws Wrong {
            int first = at;
            while (sees("0123456789")) {
                if (at - first == 9 || at > first && text.charAt(first) == '0') {
                    throw new Wrong(at);
                }
                at++;
            }
            if (at == first) {
                throw new Wrong(at);
            }
            int value = sign * Integer.parseInt(text.substring(first, at));
            if (value < low || value > high) {
                throw new Wrong(begin);
            }
            return value;
        }
    }

    private final StringBuilder tape = new StringBuilder();
    private int[] out = {};
    private final Sheet[] drawings = new Sheet[16];
    private final int[][] palettes = new int[4][16];
    private final List<List<Integer>> rows = new ArrayList<>();
    private final List<int[]> marks = new ArrayList<>();
    private int[] found = {};
    private final List<int[]> bones = new ArrayList<>();
    private final List<TreeMap<Integer, Integer>> boneKeys = new ArrayList<>();
    private int pivotX = 24;
    private int pivotY = 16;
    private final int[] letters = new int[26];
    private List<int[]> mouths = new ArrayList<>();
    private final List<TreeMap<Integer, Integer>> cameraKeys = new ArrayList<>();
    private final int[] depths = {64, 64, 64, 64};
    private final int[][] wiggles = new int[4][];
    private final List<String[]> nodes = new ArrayList<>();
    private int[][] filmed = {};
    private int filmBytes;
    private final int[][] samples = {{}, {}, {}};
    private final int[] begins = new int[3];

    Model() {
        for (int d = 0; d < 16; d++) {
            drawings[d] = new Sheet();
        }
        for (int p = 0; p < 4; p++) {
            rows.add(new ArrayList<>());
            for (int c = 1; c < 16; c++) {
                palettes[p][c] = c * 1118481;
            }
        }
        for (int k = 0; k < 3; k++) {
            cameraKeys.add(new TreeMap<>());
        }
    }

    /** The answer of a call by its name. */
    int call(String name, int... a) {
        switch (name) {
            case "feed": return feed(a);
            case "end": return end(a[0]);
            case "out": return a[0] >= 0 && a[0] < out.length ? out[a[0]] : NONE;
            case "stroke": return read(reader -> stroke(reader, a[0]), in(a[0], 0, 15));
            case "take": return hasStroke(a[0], a[1]) ? gone(drawings[a[0]].lines, a[1]) : NONE;
            case "written": return written(a[0]);
            case "fit": return fit(a[0], a[1], a[2]);
            case "erase": return erase(a[0], a[1], a[2], a[3]);
            case "meets": return meets(a[0], a[1], a[2]);
            case "area": return area(a[0], a[1]);
            case "fill": return fill(a[0], a[1], a[2], a[3], a[4]);
            case "unfill": return hasFill(a[0], a[1]) ? gone(drawings[a[0]].fills, a[1]) : NONE;
            case "region": return hasFill(a[0], a[1]) ? size(drawings[a[0]], drawings[a[0]].fills.get(a[1])) : NONE;
            case "paint": return in(a[0], 0, 15) && onPaper(a[1], a[2]) ? paint(drawings[a[0]])[a[2]][a[1]] : NONE;
            case "colour": return colour(a[0], a[1], a[2]);
            case "sheet": return read(reader -> sheet(reader, a[0]), in(a[0], 0, 3));
            case "shown": return in(a[0], 0, 3) ? shown(a[0], a[1]) : NONE;
            case "stretch": return stretch(a[0], a[1], a[2]);
            case "told": return told(a[0]);
            case "mark": return mark(a[0], a[1]);
            case "unmark": return allGone(marks);
            case "match": return match(a[0], a[1]);
            case "partner": return in(a[0], 0, found.length - 1) && found[a[0]] < 8 ? found[a[0]] : NONE;
            case "tween": return tween(a[0], a[1], a[2], a[3], a[4]);
            default: return callMore(name, a);
        }
    }

    private int callMore(String name, int... a) {
        switch (name) {
            case "bone": return bone(a[0], a[1], a[2], a[3]);
            case "pivot": return pivot(a[0], a[1]);
            case "key": return key(a[0], a[1], a[2]);
            case "angle": return isBone(a[0]) && in(a[1], 0, 119) ? angle(a[0], a[1]) : NONE;
            case "at": return isBone(a[0]) && in(a[1], 0, 119) && in(a[2], 0, 1) ? place(a[0], a[1])[a[2]] : -100000;
            case "reach": return reach(a[0], a[1], a[2], a[3]);
            case "swing": return swing(a[0], a[1], a[2], a[3]);
            case "language": return read(this::language, true);
            case "letter": return in(a[0], 0, 25) ? letters[a[0]] : NONE;
            case "speech": return read(this::speech, true);
            case "mouth": return mouth(a[0], a[1]);
            case "blink": return blink(a[0], a[1]);
            case "camera": return camera(a[0], a[1], a[2], a[3]);
            case "depth": return depth(a[0], a[1]);
            case "seen": return seen(a[0], a[1], a[2], a[3], a[4]);
            case "cutOff": return cutOff(a[0], a[1], a[2]);
            case "wiggle": return wiggle(a[0], a[1], a[2], a[3]);
            case "node": return read(this::node, true);
            case "clear": return allGone(nodes);
            case "sample": return sample(a[0], a[1], a[2], a[3]);
            case "drawn": return drawn(a[0], a[1]);
            case "film": return film(a[0], a[1], a[2]);
            case "played": return in(a[0], 0, filmed.length - 1) && onPaper(a[1], a[2])
                    ? filmed[a[0]][a[2] * 48 + a[1]] : STATE;
            case "flicker": return flicker(a[0], a[1]);
            case "track": return read(reader -> track(reader, a[0], a[1]), in(a[0], 0, 2) && in(a[1], 0, 999));
            case "mix": return mix(a[0]);
            case "count": return count(a[0]);
            default: throw new IllegalArgumentException(name);
        }
    }

    // ---- sums

    private static boolean in(int value, int low, int high) {
        return value >= low && value <= high;
    }

    private static boolean onPaper(int x, int y) {
        return in(x, 0, 47) && in(y, 0, 31);
    }

    private static long div(long a, long b) {
        long rest = (a % b + b) % b;
        return (a - rest) / b;
    }

    private static int round(long a, long b) {
        return (int) div(2 * a + b, 2 * b);
    }

    private static int hash(int s, int... all) {
        int h = s;
        for (int it : all) {
            h = (h ^ it) * 16777619;
            h ^= h >>> 15;
        }
        return h;
    }

    private static int gone(List<?> list, int k) {
        list.remove(k);
        return list.size();
    }

    private static int allGone(List<?> list) {
        int many = list.size();
        list.clear();
        return many;
    }

    private boolean hasStroke(int d, int s) {
        return in(d, 0, 15) && in(s, 0, drawings[d].lines.size() - 1);
    }

    private boolean hasFill(int d, int f) {
        return in(d, 0, 15) && in(f, 0, drawings[d].fills.size() - 1);
    }

    // ---- texts

    private int feed(int[] ints) {
        if (tape.length() > 1580) {
            return FULL;
        }
        for (int value : ints) {
            for (int shift = 24; shift >= 0; shift -= 8) {
                tape.append((char) (value >> shift & 255));
            }
        }
        return tape.length();
    }

    private int end(int n) {
        if (!in(n, 0, tape.length())) {
            return NONE;
        }
        tape.setLength(n);
        return n;
    }

    private int read(Reading reading, boolean canBe) {
        Reader reader = new Reader(tape.toString());
        tape.setLength(0);
        try {
            return canBe ? reading.read(reader) : NONE;
        } catch (Wrong wrong) {
            return -1000 - wrong.place;
        }
    }

    private int write(String text) {
        out = text.chars().toArray();
        return out.length;
    }

    // ---- strokes

    private int stroke(Reader reader, int d) throws Wrong {
        int colour = reader.number(1, 15);
        List<int[]> points = new ArrayList<>();
        while (!reader.ends() || points.size() < 2) {
            reader.want(' ');
            int begin = reader.at;
            if (points.size() == 10) {
                throw new Wrong(begin);
            }
            int x = reader.number(0, 47);
            reader.want(',');
            int[] point = {x, reader.number(0, 31)};
            if (!points.isEmpty() && Arrays.equals(points.get(points.size() - 1), point)) {
                throw new Wrong(begin);
            }
            points.add(point);
        }
        if (drawings[d].lines.size() == 8) {
            return FULL;
        }
        drawings[d].lines.add(new Line(colour, points));
        return drawings[d].lines.size() - 1;
    }

    private int written(int d) {
        if (!in(d, 0, 15)) {
            return NONE;
        }
        StringBuilder text = new StringBuilder();
        for (Line line : drawings[d].lines) {
            text.append(line.colour);
            for (int[] p : line.points) {
                text.append(' ').append(p[0]).append(',').append(p[1]);
            }
            text.append('\n');
        }
        return write(text.toString());
    }

    private static List<int[]> pixels(int[] a, int[] b) {
        int n = Math.max(Math.abs(b[0] - a[0]), Math.abs(b[1] - a[1]));
        List<int[]> all = new ArrayList<>();
        if (n == 0) {
            all.add(a);
        }
        for (int k = 0; k <= n && n > 0; k++) {
            all.add(new int[] {a[0] + round(k * (b[0] - a[0]), n), a[1] + round(k * (b[1] - a[1]), n)});
        }
        return all;
    }

    private int fit(int d, int s, int error) {
        if (!hasStroke(d, s) || !in(error, 0, 20)) {
            return NONE;
        }
        List<int[]> all = drawings[d].lines.get(s).points;
        List<int[]> stay = new ArrayList<>(all.subList(0, 1));
        for (int i = 0; i < all.size() - 1;) {
            int next = i;
            for (int j = i + 1; j < all.size(); j++) {
                next = !Arrays.equals(all.get(i), all.get(j)) && close(all, i, j, error) ? j : next;
            }
            stay.add(all.get(next));
            i = next;
        }
        drawings[d].lines.set(s, new Line(drawings[d].lines.get(s).colour, stay));
        return stay.size();
    }

    private static long cross(int[] o, int[] a, int[] b) {
        return (long) (a[0] - o[0]) * (b[1] - o[1]) - (long) (a[1] - o[1]) * (b[0] - o[0]);
    }

    private static int squared(int[] a, int[] b) {
        return (a[0] - b[0]) * (a[0] - b[0]) + (a[1] - b[1]) * (a[1] - b[1]);
    }

    private static boolean close(List<int[]> all, int i, int j, long error) {
        for (int[] p : all.subList(i + 1, j)) {
            long c = cross(all.get(i), all.get(j), p);
            if (c * c > error * error * squared(all.get(i), all.get(j))) {
                return false;
            }
        }
        return true;
    }

    private int erase(int d, int x, int y, int r) {
        if (!in(d, 0, 15) || !onPaper(x, y) || !in(r, 0, 10)) {
            return NONE;
        }
        int went = 0;
        List<Line> left = new ArrayList<>();
        for (Line line : drawings[d].lines) {
            List<int[]> part = new ArrayList<>(line.points.subList(0, 1));
            for (int s = 1; s < line.points.size(); s++) {
                if (hit(pixels(line.points.get(s - 1), line.points.get(s)), x, y, r)) {
                    went++;
                    left.add(new Line(line.colour, part));
                    part = new ArrayList<>();
                }
                part.add(line.points.get(s));
            }
            left.add(new Line(line.colour, part));
        }
        left.removeIf(line -> line.points.size() < 2);
        if (left.size() > 8) {
            return FULL;
        }
        drawings[d].lines = left;
        return went;
    }

    private static boolean hit(List<int[]> pixels, int x, int y, int r) {
        for (int[] p : pixels) {
            if (Math.abs(p[0] - x) <= r && Math.abs(p[1] - y) <= r) {
                return true;
            }
        }
        return false;
    }

    private int meets(int d, int s, int o) {
        if (!hasStroke(d, s) || !hasStroke(d, o) || s == o) {
            return NONE;
        }
        List<int[]> a = drawings[d].lines.get(s).points;
        List<int[]> b = drawings[d].lines.get(o).points;
        int many = 0;
        for (int i = 1; i < a.size(); i++) {
            for (int j = 1; j < b.size(); j++) {
                many += meet(a.get(i - 1), a.get(i), b.get(j - 1), b.get(j)) ? 1 : 0;
            }
        }
        return many;
    }

    /** Either they cross at one place, or an end of one of them lies on the other one. */
    private static boolean meet(int[] a, int[] b, int[] c, int[] d) {
        boolean crosses = cross(a, b, c) * cross(a, b, d) < 0 && cross(c, d, a) * cross(c, d, b) < 0;
        return crosses || lies(a, c, d) || lies(b, c, d) || lies(c, a, b) || lies(d, a, b);
    }

    private static boolean lies(int[] p, int[] a, int[] b) {
        return cross(a, b, p) == 0 && (p[0] - a[0]) * (p[0] - b[0]) <= 0 && (p[1] - a[1]) * (p[1] - b[1]) <= 0;
    }

    private int area(int d, int s) {
        if (!hasStroke(d, s)) {
            return -1000000;
        }
        List<int[]> all = new ArrayList<>(drawings[d].lines.get(s).points);
        all.add(all.get(0));
        int sum = 0;
        for (int k = 1; k < all.size(); k++) {
            sum += all.get(k - 1)[0] * all.get(k)[1] - all.get(k)[0] * all.get(k - 1)[1];
        }
        return sum;
    }

    // ---- fills

    private static int[][] ink(Sheet drawing) {
        int[][] ink = new int[32][48];
        for (Line line : drawing.lines) {
            for (int s = 1; s < line.points.size(); s++) {
                for (int[] p : pixels(line.points.get(s - 1), line.points.get(s))) {
                    ink[p[1]][p[0]] = line.colour;
                }
            }
        }
        return ink;
    }

    /** The REGION's PIXELS, by sweeps over the paper till nothing more comes. */
    private static boolean[][] regionOf(Sheet drawing, int[] fill) {
        int[][] walls = ink(drawing);
        List<int[]> ends = new ArrayList<>();
        for (Line line : drawing.lines) {
            if (!Arrays.equals(line.first(), line.last())) {
                ends.add(line.first());
                ends.add(line.last());
            }
        }
        for (int i = 0; i < ends.size(); i++) {
            for (int j = i + 1; j < ends.size(); j++) {
                int far = squared(ends.get(i), ends.get(j));
                if (far > 0 && far <= fill[2] * fill[2]) {
                    for (int[] p : pixels(ends.get(i), ends.get(j))) {
                        walls[p[1]][p[0]] = 1;
                    }
                }
            }
        }
        boolean[][] has = new boolean[34][50];
        has[fill[1] + 1][fill[0] + 1] = walls[fill[1]][fill[0]] == 0;
        for (boolean more = true; more;) {
            more = false;
            for (int y = 1; y <= 32; y++) {
                for (int x = 1; x <= 48; x++) {
                    boolean near = has[y - 1][x] || has[y + 1][x] || has[y][x - 1] || has[y][x + 1];
                    if (near && !has[y][x] && walls[y - 1][x - 1] == 0) {
                        has[y][x] = true;
                        more = true;
                    }
                }
            }
        }
        return has;
    }

    private static int size(Sheet drawing, int[] fill) {
        boolean[][] has = regionOf(drawing, fill);
        int many = 0;
        for (int y = 0; y < 32; y++) {
            for (int x = 0; x < 48; x++) {
                if (has[y + 1][x + 1] && (x == 0 || x == 47 || y == 0 || y == 31)) {
                    return OPEN;
                }
                many += has[y + 1][x + 1] ? 1 : 0;
            }
        }
        return many;
    }

    private int fill(int d, int x, int y, int gap, int colour) {
        if (!in(d, 0, 15) || !onPaper(x, y) || !in(gap, 0, 8) || !in(colour, 1, 15)) {
            return NONE;
        }
        if (drawings[d].fills.size() == 6) {
            return FULL;
        }
        int[] fill = {x, y, gap, colour};
        int size = size(drawings[d], fill);
        if (size > 0) {
            drawings[d].fills.add(fill);
        }
        return size;
    }

    private static int[][] paint(Sheet drawing) {
        int[][] paint = ink(drawing);
        for (int[] fill : drawing.fills) {
            if (size(drawing, fill) > 0) {
                boolean[][] has = regionOf(drawing, fill);
                for (int y = 0; y < 32; y++) {
                    for (int x = 0; x < 48; x++) {
                        paint[y][x] = has[y + 1][x + 1] ? fill[3] : paint[y][x];
                    }
                }
            }
        }
        return paint;
    }

    private int colour(int p, int c, int rgb) {
        if (!in(p, 0, 3) || !in(c, 1, 15) || !in(rgb, 0, 16777215)) {
            return NONE;
        }
        int was = palettes[p][c];
        palettes[p][c] = rgb;
        return was;
    }

    // ---- the sheet

    private int sheet(Reader reader, int layer) throws Wrong {
        List<Integer> row = new ArrayList<>();
        while (!reader.ends() || reader.at > 0 && reader.text.charAt(reader.at - 1) == ' ') {
            if (reader.sees('(')) {
                bracket(reader, row);
            } else {
                item(reader, row);
            }
            if (!reader.ends()) {
                reader.want(' ');
            }
        }
        rows.set(layer, row);
        return row.size();
    }

    private static void item(Reader reader, List<Integer> row) throws Wrong {
        int begin = reader.at;
        int what = NONE;
        if (reader.sees('-')) {
            reader.at++;
        } else {
            what = reader.number(0, 15);
        }
        int times = 1;
        if (reader.sees('*')) {
            reader.at++;
            times = reader.number(1, 99);
        }
        if (row.size() + times > 120) {
            throw new Wrong(begin);
        }
        for (int k = 0; k < times; k++) {
            row.add(what);
        }
    }

    private static void bracket(Reader reader, List<Integer> row) throws Wrong {
        int begin = reader.at;
        int before = row.size();
        reader.want('(');
        item(reader, row);
        while (reader.sees(' ')) {
            reader.at++;
            item(reader, row);
        }
        reader.want(')');
        reader.want('*');
        int times = reader.number(1, 20);
        List<Integer> once = new ArrayList<>(row.subList(before, row.size()));
        for (int k = 1; k < times; k++) {
            row.addAll(once);
        }
        if (row.size() > 120) {
            throw new Wrong(begin);
        }
    }

    private int shown(int layer, int frame) {
        return in(frame, 0, rows.get(layer).size() - 1) ? rows.get(layer).get(frame) : NONE;
    }

    private int stretch(int layer, int a, int b) {
        if (!in(layer, 0, 3) || !in(a, 1, 20) || !in(b, 1, 20)) {
            return NONE;
        }
        int many = (int) div((long) rows.get(layer).size() * a, b);
        if (many > 120) {
            return FULL;
        }
        List<Integer> row = new ArrayList<>();
        for (int f = 0; f < many; f++) {
            row.add(shown(layer, (int) div((long) f * b, a)));
        }
        rows.set(layer, row);
        return many;
    }

    private int told(int layer) {
        if (!in(layer, 0, 3)) {
            return NONE;
        }
        List<String> items = new ArrayList<>();
        List<Integer> row = rows.get(layer);
        for (int f = 0; f < row.size();) {
            int g = f;
            while (g < row.size() && row.get(g).equals(row.get(f))) {
                g++;
            }
            String what = row.get(f) == NONE ? "-" : row.get(f).toString();
            for (int left = g - f; left > 0; left -= 99) {
                items.add(left == 1 ? what : what + "*" + Math.min(99, left));
            }
            f = g;
        }
        return write(String.join(" ", items));
    }

    // ---- in-betweens

    private int mark(int i, int j) {
        if (!in(i, 0, 7) || !in(j, 0, 7)) {
            return NONE;
        }
        for (int[] mark : marks) {
            if (mark[0] == i || mark[1] == j) {
                return STATE;
            }
        }
        if (marks.size() == 4) {
            return FULL;
        }
        marks.add(new int[] {i, j});
        return marks.size();
    }

    private int bestSum;
    private int[] best;

    private int[] bestOf(Sheet d, Sheet e) {
        bestSum = Integer.MAX_VALUE;
        tryPartners(d.lines, e.lines, new int[d.lines.size()], 0, 400 * e.lines.size());
        return best;
    }

    /** All rows of partners in their order, the least first; the sum never gets less by more than 400 a STROKE. */
    private void tryPartners(List<Line> d, List<Line> e, int[] row, int i, int sum) {
        if (sum - 400 * (d.size() - i) >= bestSum) {
            return;
        }
        if (i == d.size()) {
            bestSum = sum;
            best = row.clone();
            return;
        }
        for (int j = 0; j <= 8; j++) {
            if ((j == 8 || j < e.size() && isFree(row, i, j)) && keepsMarks(d.size(), e.size(), i, j)) {
                row[i] = j;
                tryPartners(d, e, row, i + 1, j == 8 ? sum + 400 : sum - 400 + cost(d.get(i), e.get(j)));
            }
        }
    }

    private static boolean isFree(int[] row, int i, int j) {
        for (int k = 0; k < i; k++) {
            if (row[k] == j) {
                return false;
            }
        }
        return true;
    }

    private boolean keepsMarks(int many, int others, int i, int j) {
        for (int[] mark : marks) {
            if (mark[0] < many && mark[1] < others && (mark[0] == i) != (mark[1] == j)) {
                return false;
            }
        }
        return true;
    }

    private static int cost(Line a, Line b) {
        return squared(a.first(), b.first()) + squared(a.last(), b.last()) + (a.colour == b.colour ? 0 : 100);
    }

    private int match(int d, int e) {
        if (!in(d, 0, 15) || !in(e, 0, 15)) {
            return NONE;
        }
        found = bestOf(drawings[d], drawings[e]);
        return bestSum;
    }

    private int tween(int d, int e, int a, int b, int into) {
        if (!in(d, 0, 15) || !in(e, 0, 15) || !in(into, 0, 15) || !in(b, 1, 24) || !in(a, 0, b) || into == d || into == e) {
            return NONE;
        }
        Sheet third = new Sheet();
        boolean early = 2 * a < b;
        if (a == 0 || a == b) {
            third.lines.addAll(drawings[a == 0 ? d : e].lines);
        } else {
            int[] row = bestOf(drawings[d], drawings[e]);
            for (int i = 0; i < row.length; i++) {
                Line line = drawings[d].lines.get(i);
                if (row[i] < 8) {
                    third.lines.add(between(line, drawings[e].lines.get(row[i]), a, b));
                } else if (early) {
                    third.lines.add(line);
                }
            }
            for (int j = 0; j < drawings[e].lines.size() && !early; j++) {
                if (isFree(row, row.length, j)) {
                    third.lines.add(drawings[e].lines.get(j));
                }
            }
            third.lines.removeIf(line -> line.points.size() < 2);
        }
        third.fills.addAll(drawings[early ? d : e].fills);
        drawings[into] = third;
        return third.lines.size();
    }

    private static Line between(Line d, Line e, int a, int b) {
        int many = Math.max(d.points.size(), e.points.size());
        List<int[]> points = new ArrayList<>();
        for (int j = 0; j < many; j++) {
            int[] point = new int[2];
            for (int axis = 0; axis < 2; axis++) {
                // both are times many - 1
                long from = spread(d.points, j, many - 1, axis);
                long to = spread(e.points, j, many - 1, axis);
                point[axis] = round(from * b + (to - from) * a, (long) b * (many - 1));
            }
            if (points.isEmpty() || !Arrays.equals(points.get(points.size() - 1), point)) {
                points.add(point);
            }
        }
        return new Line(2 * a < b ? d.colour : e.colour, points);
    }

    private static long spread(List<int[]> p, int j, int last, int axis) {
        int q = j * (p.size() - 1) / last;
        int r = j * (p.size() - 1) % last;
        long here = p.get(q)[axis];
        return r == 0 ? here * last : here * last + (p.get(q + 1)[axis] - here) * r;
    }

    // ---- the puppet

    private boolean isBone(int b) {
        return in(b, 0, bones.size() - 1);
    }

    private int bone(int parent, int length, int low, int high) {
        boolean hasParent = bones.isEmpty() ? parent == -1 : isBone(parent);
        if (!hasParent || !in(length, 0, 40) || !in(low, 0, 31) || !in(high, 0, 31) || low > high) {
            return NONE;
        }
        if (bones.size() == 10) {
            return FULL;
        }
        bones.add(new int[] {parent, length, low, high});
        boneKeys.add(new TreeMap<>());
        return bones.size() - 1;
    }

    private int pivot(int x, int y) {
        if (!in(x, -400, 400) || !in(y, -400, 400)) {
            return NONE;
        }
        pivotX = x;
        pivotY = y;
        return 1;
    }

    private int key(int b, int frame, int angle) {
        if (!isBone(b) || !in(frame, 0, 119) || !in(angle, bones.get(b)[2], bones.get(b)[3])) {
            return NONE;
        }
        if (isFullAt(b, frame)) {
            return FULL;
        }
        boneKeys.get(b).put(frame, angle);
        return boneKeys.get(b).size();
    }

    private boolean isFullAt(int b, int frame) {
        return boneKeys.get(b).size() == 6 && !boneKeys.get(b).containsKey(frame);
    }

    private static int value(TreeMap<Integer, Integer> keys, int frame, int without) {
        Integer before = keys.floorKey(frame);
        Integer behind = keys.ceilingKey(frame);
        if (before == null || behind == null || before.equals(behind)) {
            return before != null ? keys.get(before) : behind != null ? keys.get(behind) : without;
        }
        int way = keys.get(behind) - keys.get(before);
        return keys.get(before) + round((long) way * (frame - before), behind - before);
    }

    private int angle(int b, int frame) {
        return value(boneKeys.get(b), frame, bones.get(b)[2]);
    }

    private int direction(int b, int frame) {
        int parent = bones.get(b)[0];
        return (angle(b, frame) + (parent < 0 ? 0 : direction(parent, frame))) % 32;
    }

    private static int sine(int d) {
        int[] sines = {0, 200, 392, 569, 724, 851, 946, 1004, 1024};
        return d >= 32 ? sine(d - 32) : d >= 16 ? -sine(d - 16) : d > 8 ? sine(16 - d) : sines[d];
    }

    private int[] place(int b, int frame) {
        int[] bone = bones.get(b);
        int[] from = bone[0] < 0 ? new int[] {pivotX, pivotY} : place(bone[0], frame);
        int d = direction(b, frame);
        return new int[] {from[0] + round((long) bone[1] * sine(d + 8), 1024), from[1] + round((long) bone[1] * sine(d), 1024)};
    }

    private int reach(int b, int frame, int x, int y) {
        if (!isBone(b) || !in(frame, 0, 119) || !in(x, -400, 400) || !in(y, -400, 400)) {
            return NONE;
        }
        List<Integer> chain = new ArrayList<>();
        for (int k = b; k >= 0 && chain.size() < 3; k = bones.get(k)[0]) {
            chain.add(0, k);
        }
        for (int k : chain) {
            if (isFullAt(k, frame)) {
                return FULL;
            }
        }
        int[] target = {x, y};
        int[] nearest = {Integer.MAX_VALUE, 0, 0, 0};
        tryAngles(chain, 0, frame, target, nearest);
        for (int k = 0; k < chain.size(); k++) {
            boneKeys.get(chain.get(k)).put(frame, nearest[1 + k]);
        }
        return nearest[0];
    }

    private void tryAngles(List<Integer> chain, int k, int frame, int[] target, int[] nearest) {
        if (k == chain.size()) {
            int far = squared(place(chain.get(k - 1), frame), target);
            if (far < nearest[0]) {
                nearest[0] = far;
                for (int j = 0; j < k; j++) {
                    nearest[1 + j] = angle(chain.get(j), frame);
                }
            }
            return;
        }
        int[] bone = bones.get(chain.get(k));
        for (int angle = bone[2]; angle <= bone[3]; angle++) {
            boneKeys.get(chain.get(k)).put(frame, angle);
            tryAngles(chain, k + 1, frame, target, nearest);
        }
    }

    private int swing(int b, int frame, int stiff, int damp) {
        if (!isBone(b) || !in(frame, 0, 119) || !in(stiff, 0, 16) || !in(damp, 0, 16)) {
            return -1000000000;
        }
        long p = 256L * angle(b, 0);
        long v = 0;
        for (int f = 1; f <= frame; f++) {
            v = v + div((256L * angle(b, f) - p) * stiff, 16) - div(v * damp, 16);
            p += v;
        }
        return (int) p;
    }

    // ---- lips

    private int language(Reader reader) throws Wrong {
        int[] told = letters.clone();
        int groups = 0;
        do {
            if (groups > 0) {
                reader.want(' ');
            }
            int begin = reader.at;
            while (!reader.ends() && in(reader.text.charAt(reader.at), 'a', 'z')) {
                reader.at++;
            }
            String names = reader.text.substring(begin, reader.at);
            if (names.isEmpty()) {
                throw new Wrong(begin);
            }
            reader.want('=');
            if (!reader.sees("01234567")) {
                throw new Wrong(reader.at);
            }
            for (char c : names.toCharArray()) {
                told[c - 'a'] = reader.text.charAt(reader.at) - '0';
            }
            reader.at++;
            groups++;
        } while (!reader.ends());
        System.arraycopy(told, 0, letters, 0, 26);
        return groups;
    }

    private int speech(Reader reader) throws Wrong {
        List<int[]> all = new ArrayList<>();
        int frames = 0;
        do {
            if (!all.isEmpty()) {
                reader.want(' ');
            }
            int begin = reader.at;
            if (!reader.sees(".abcdefghijklmnopqrstuvwxyz")) {
                throw new Wrong(begin);
            }
            char c = reader.text.charAt(reader.at++);
            int many = reader.number(1, 99);
            frames += many;
            if (frames > 120) {
                throw new Wrong(begin);
            }
            all.add(new int[] {c == '.' ? 0 : letters[c - 'a'], many});
        } while (!reader.ends());
        mouths = joined(all);
        for (int k = single(); k >= 0 && mouths.size() > 1; k = single()) {
            mouths.get(k == mouths.size() - 1 ? k - 1 : k + 1)[1]++;
            mouths.remove(k);
            mouths = joined(mouths);
        }
        return mouths.size();
    }

    private int single() {
        for (int k = 0; k < mouths.size(); k++) {
            if (mouths.get(k)[1] == 1) {
                return k;
            }
        }
        return -1;
    }

    private static List<int[]> joined(List<int[]> all) {
        List<int[]> joined = new ArrayList<>();
        for (int[] mouth : all) {
            int last = joined.size() - 1;
            if (last >= 0 && joined.get(last)[0] == mouth[0]) {
                joined.get(last)[1] += mouth[1];
            } else {
                joined.add(mouth.clone());
            }
        }
        return joined;
    }

    private int mouth(int i, int what) {
        if (!in(i, 0, mouths.size() - 1) || !in(what, 0, 2)) {
            return NONE;
        }
        int first = 0;
        for (int[] mouth : mouths.subList(0, i)) {
            first += mouth[1];
        }
        return what == 1 ? first : mouths.get(i)[what / 2];
    }

    private static int blink(int seed, int frame) {
        if (!in(frame, 0, 9999)) {
            return NONE;
        }
        int r = seed * 1103515245 + 12345;
        int begin = 20 + (r >>> 16) % 32;
        while (begin <= frame) {
            if (frame < begin + 3) {
                return 1;
            }
            r = r * 1103515245 + 12345;
            begin += 24 + (r >>> 16) % 64;
        }
        return 0;
    }

    // ---- the camera

    private int camera(int frame, int x, int y, int zoom) {
        if (!in(frame, 0, 119) || !in(x, -400, 400) || !in(y, -400, 400) || !in(zoom, 16, 256) && zoom != 0) {
            return NONE;
        }
        int[] values = {x, y, zoom};
        if (zoom > 0 && cameraKeys.get(0).size() == 8 && !cameraKeys.get(0).containsKey(frame)) {
            return FULL;
        }
        for (int k = 0; k < 3; k++) {
            if (zoom == 0) {
                cameraKeys.get(k).remove(frame);
            } else {
                cameraKeys.get(k).put(frame, values[k]);
            }
        }
        return cameraKeys.get(0).size();
    }

    private int depth(int layer, int depth) {
        if (!in(layer, 0, 3) || !in(depth, 16, 1024)) {
            return NONE;
        }
        int was = depths[layer];
        depths[layer] = depth;
        return was;
    }

    private int seen(int layer, int x, int y, int frame, int axis) {
        if (!in(layer, 0, 3) || !in(x, -400, 400) || !in(y, -400, 400) || !in(frame, 0, 119) || !in(axis, 0, 1)) {
            return -1000000;
        }
        int middle = axis == 0 ? 24 : 16;
        long away = (long) ((axis == 0 ? x : y) - middle) * depths[layer] - 64L * value(cameraKeys.get(axis), frame, 0);
        return middle + round(away * value(cameraKeys.get(2), frame, 64), 64L * depths[layer]);
    }

    private int behind(int layer, int place, int axis, int frame) {
        int middle = axis == 0 ? 24 : 16;
        long zoom = value(cameraKeys.get(2), frame, 64);
        long sum = (place - middle) * 64L * depths[layer] + 64L * value(cameraKeys.get(axis), frame, 0) * zoom;
        return middle + round(sum, zoom * depths[layer]);
    }

    private int cutOff(int layer, int from, int to) {
        if (!in(layer, 0, 3) || !in(from, 0, 119) || !in(to, 0, 119)) {
            return NONE;
        }
        for (int f = from; f <= to; f++) {
            if (!onPaper(behind(layer, 0, 0, f), behind(layer, 0, 1, f))
                    || !onPaper(behind(layer, 47, 0, f), behind(layer, 31, 1, f))) {
                return f;
            }
        }
        return NONE;
    }

    private int wiggle(int layer, int seed, int every, int most) {
        if (!in(layer, 0, 3) || !in(every, 0, 24) || !in(most, 0, 3)) {
            return NONE;
        }
        wiggles[layer] = every == 0 ? null : new int[] {seed, every, most};
        return 1;
    }

    private static int kept(int v, int m) {
        return v < 0 ? 0 : v > m ? m : v;
    }

    private static Sheet wiggled(Sheet still, int[] wiggle, int frame) {
        if (wiggle == null) {
            return still;
        }
        Sheet moved = new Sheet();
        moved.fills = still.fills;
        for (int i = 0; i < still.lines.size(); i++) {
            List<int[]> points = new ArrayList<>();
            for (int j = 0; j < still.lines.get(i).points.size(); j++) {
                int[] p = still.lines.get(i).points.get(j);
                int beat = (int) div(frame, wiggle[1]);
                int choices = 2 * wiggle[2] + 1;
                int a = (hash(wiggle[0], beat, i, j, 0) >>> 8) % choices - wiggle[2];
                int b = (hash(wiggle[0], beat, i, j, 1) >>> 8) % choices - wiggle[2];
                points.add(new int[] {kept(p[0] + a, 47), kept(p[1] + b, 31)});
            }
            moved.lines.add(new Line(still.lines.get(i).colour, points));
        }
        return moved;
    }

    // ---- pictures

    private int node(Reader reader) throws Wrong {
        String[] kinds = {"paper c", "layer p p", "over n n", "shift n s s", "matte n n", "fade n n f g", "blur n",
            "sparks h x y k c"};
        while (reader.sees("abcdefghijklmnopqrstuvwxyz") || reader.at > 0 && reader.sees("0123456789")) {
            reader.at++;
        }
        String word = reader.text.substring(0, reader.at);
        for (String kind : kinds) {
            String[] parts = kind.split(" ");
            if (parts[0].equals(word)) {
                int f = 0;
                for (int k = 1; k < parts.length; k++) {
                    reader.want(' ');
                    f = thing(reader, parts[k].charAt(0), f);
                }
                if (!reader.ends()) {
                    throw new Wrong(reader.at);
                }
                if (nodes.size() == 10) {
                    return FULL;
                }
                nodes.add(reader.text.split(" "));
                return nodes.size() - 1;
            }
        }
        throw new Wrong(0);
    }

    private int thing(Reader reader, char what, int f) throws Wrong {
        switch (what) {
            case 'c': return reader.number(0, 16777215);
            case 'p': return reader.number(0, 3);
            case 'n': return reader.number(0, nodes.size() - 1);
            case 's': return reader.whole(-60, 60);
            case 'f': return reader.number(0, 119);
            case 'g': return reader.number(f + 1, 119);
            case 'h': return reader.whole(-99999, 99999);
            case 'x': return reader.number(0, 47);
            case 'y': return reader.number(0, 31);
            default: return reader.number(1, 20);
        }
    }

    private int[] picture(int n, int frame) {
        int[][] all = new int[n + 1][];
        for (int k = 0; k <= n; k++) {
            all[k] = picture(k, frame, all);
        }
        return all[n];
    }

    /** A node's PIXELS at a FRAME, -1 for CLEAR; those of nodes with less numbers are there. */
    private int[] picture(int n, int frame, int[][] all) {
        String[] told = nodes.get(n);
        int[] t = new int[told.length];
        for (int k = 1; k < told.length; k++) {
            t[k] = Integer.parseInt(told[k]);
        }
        int[] a = "paper layer sparks".contains(told[0]) ? null : all[t[1]];
        int[] b = "over matte fade".contains(told[0]) ? all[t[2]] : null;
        int[] picture = new int[1536];
        Sheet moved = null;
        if (told[0].equals("layer") && shown(t[1], frame) >= 0) {
            moved = wiggled(drawings[shown(t[1], frame)], wiggles[t[1]], frame);
        }
        int[][] paint = moved == null ? null : paint(moved);
        for (int q = 0; q < 1536; q++) {
            int x = q % 48;
            int y = q / 48;
            switch (told[0]) {
                case "paper": picture[q] = t[1]; break;
                case "layer": picture[q] = layerAt(paint, t, x, y, frame); break;
                case "over": picture[q] = a[q] >= 0 ? a[q] : b[q]; break;
                case "shift": picture[q] = onPaper(x - t[2], y - t[3]) ? a[(y - t[3]) * 48 + x - t[2]] : -1; break;
                case "matte": picture[q] = b[q] >= 0 ? a[q] : -1; break;
                case "fade": picture[q] = fadeAt(a[q], b[q], kept(frame - t[3], t[4] - t[3]), t[4] - t[3]); break;
                case "blur": picture[q] = blurAt(a, x, y); break;
                default: picture[q] = sparkAt(t, x, y, frame); break;
            }
        }
        return picture;
    }

    private int layerAt(int[][] paint, int[] t, int x, int y, int frame) {
        int px = behind(t[1], x, 0, frame);
        int py = behind(t[1], y, 1, frame);
        int colour = paint == null || !onPaper(px, py) ? 0 : paint[py][px];
        return colour == 0 ? -1 : palettes[t[2]][colour];
    }

    private static int fadeAt(int a, int b, int s, int m) {
        if (a < 0 || b < 0) {
            return 2 * s < m ? a : b;
        }
        int all = 0;
        for (int unit = 65536; unit > 0; unit /= 256) {
            all += unit * round((long) (a / unit % 256) * (m - s) + (long) (b / unit % 256) * s, m);
        }
        return all;
    }

    private static int blurAt(int[] a, int x, int y) {
        if (a[y * 48 + x] < 0) {
            return -1;
        }
        int all = 0;
        for (int unit = 65536; unit > 0; unit /= 256) {
            int sum = 0;
            int many = 0;
            for (int d = 0; d < 9; d++) {
                int u = x + d % 3 - 1;
                int v = y + d / 3 - 1;
                if (onPaper(u, v) && a[v * 48 + u] >= 0) {
                    sum += a[v * 48 + u] / unit % 256;
                    many++;
                }
            }
            all += unit * round(sum, many);
        }
        return all;
    }

    private static int sparkAt(int[] t, int x, int y, int frame) {
        for (int k = 0; k < t[4]; k++) {
            int age = frame - k;
            int v = (hash(t[1], k, 1, 0, 0) >>> 8) % 17 - 8;
            int w = (hash(t[1], k, 2, 0, 0) >>> 8) % 33 - 24;
            if (in(age, 0, 23) && x == t[2] + div((long) v * age, 4) && y == t[3] + div((long) w * age + age * age, 8)) {
                return t[5];
            }
        }
        return -1;
    }

    private boolean isNode(int n) {
        return in(n, 0, nodes.size() - 1);
    }

    private int sample(int n, int frame, int x, int y) {
        return isNode(n) && in(frame, 0, 119) && onPaper(x, y) ? picture(n, frame)[y * 48 + x] : NONE;
    }

    private int drawn(int n, int frame) {
        if (!isNode(n) || !in(frame, 0, 119)) {
            return NONE;
        }
        return (int) Arrays.stream(picture(n, frame)).filter(value -> value >= 0).count();
    }

    private int film(int n, int from, int to) {
        if (!isNode(n) || !in(from, 0, 119) || !in(to, 0, 119) || from > to || to - from > 7) {
            return NONE;
        }
        filmed = new int[to - from + 1][];
        List<Integer> bytes = new ArrayList<>();
        int[] before = new int[1536];
        Arrays.fill(before, -1);
        for (int f = from; f <= to; f++) {
            int[] now = picture(n, f);
            for (int q = 0; q < 1536;) {
                int same = 0;
                while (same < 255 && q < 1536 && now[q] == before[q]) {
                    same++;
                    q++;
                }
                bytes.add(same);
                int many = bytes.size();
                bytes.add(0);
                while (bytes.get(many) < 255 && q < 1536 && now[q] != before[q]) {
                    bytes.set(many, bytes.get(many) + 1);
                    bytes.addAll(now[q] < 0 ? List.of(0) : List.of(1, now[q] / 65536, now[q] / 256 % 256, now[q] % 256));
                    q++;
                }
            }
            before = now;
            filmed[f - from] = now;
        }
        out = bytes.stream().mapToInt(Integer::intValue).toArray();
        filmBytes = out.length;
        return filmBytes;
    }

    private int flicker(int n, int frame) {
        if (!isNode(n) || !in(frame, 1, 118)) {
            return NONE;
        }
        int[] before = picture(n, frame - 1);
        int[] now = picture(n, frame);
        int[] behind = picture(n, frame + 1);
        int many = 0;
        for (int q = 0; q < 1536; q++) {
            many += now[q] != before[q] && before[q] == behind[q] ? 1 : 0;
        }
        return many;
    }

    // ---- tracks

    private int track(Reader reader, int t, int begin) throws Wrong {
        List<Integer> all = new ArrayList<>();
        while (!reader.ends() || reader.at > 0 && reader.text.charAt(reader.at - 1) == ' ') {
            if (all.size() == 100) {
                throw new Wrong(reader.at);
            }
            all.add(reader.whole(-100, 100));
            if (!reader.ends()) {
                reader.want(' ');
            }
        }
        samples[t] = all.stream().mapToInt(Integer::intValue).toArray();
        begins[t] = begin;
        return all.size();
    }

    private int mix(int k) {
        long sum = 0;
        for (int t = 0; t < 3; t++) {
            long i = (long) k - begins[t];
            sum += i >= 0 && i < samples[t].length ? samples[t][(int) i] : 0;
        }
        return (int) Math.max(-128, Math.min(127, sum));
    }

    private int count(int what) {
        int lines = 0;
        int fills = 0;
        for (Sheet drawing : drawings) {
            lines += drawing.lines.size();
            fills += drawing.fills.size();
        }
        int[] all = {lines, fills, bones.size(), nodes.size(), filmed.length, filmBytes, mouths.size(), marks.size(),
            cameraKeys.get(0).size(), tape.length()};
        return in(what, 0, 9) ? all[what] : NONE;
    }
}
