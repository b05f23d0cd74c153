import java.util.Arrays;

/** A house for cartoons. The promises that the public calls keep stand in the document. */
public final class CartoonHouse {
    public static final int NONE = -1;
    public static final int STATE = -3;
    public static final int FULL = -4;
    public static final int OPEN = -5;

    private static final int WIDTH = 48;
    private static final int HEIGHT = 32;
    private static final int PIXELS = 1536;
    private static final int MIDDLE_X = 24;
    private static final int MIDDLE_Y = 16;
    private static final int TAPE_ROOM = 1600;
    private static final int TEXT_ROOM = 512;
    private static final int MOST_DRAWINGS = 16;
    private static final int MOST_STROKES = 8;
    private static final int MOST_POINTS = 10;
    private static final int MOST_FILLS = 6;
    private static final int MOST_COLOURS = 15;
    private static final int MOST_RGB = 16777215;
    private static final int MOST_FRAMES = 120;
    private static final int LAYERS = 4;
    private static final int PALETTES = 4;
    private static final int MOST_MARKS = 4;
    private static final int MOST_BONES = 10;
    private static final int BONE_KEYS = 6;
    private static final int CAMERA_KEYS = 8;
    private static final int TURN = 32;
    private static final int LETTERS = 26;
    private static final int MOST_NODES = 10;
    private static final int MOST_TELLS = 5;
    private static final int FILM_FRAMES = 8;
    private static final int FILM_BYTES = 49264;
    private static final int TRACKS = 3;
    private static final int MOST_SAMPLES = 100;
    private static final int CLEAR = -1;
    private static final int FAR = 400;
    private static final int FARTHEST = 1000000000;
    private static final int[] QUARTER_SINE = {0, 200, 392, 569, 724, 851, 946, 1004, 1024};
    private static final Kind[] KINDS = Kind.values();

    private final Bytes tape = new Bytes(TAPE_ROOM);
    private final Bytes script = new Bytes(TEXT_ROOM);
    private final Drawing[] drawings = new Drawing[MOST_DRAWINGS];
    private final Drawing desk = new Drawing();
    private final Canvas canvas = new Canvas();
    private final int[][] palettes = new int[PALETTES][MOST_COLOURS + 1];
    private final Layer[] layers = new Layer[LAYERS];
    private final Matching matching = new Matching();
    private final Bone[] bones = new Bone[MOST_BONES];
    private final Bone root = new Bone();
    private int boneCount;
    private int pivotX = MIDDLE_X;
    private int pivotY = MIDDLE_Y;
    private final Lips lips = new Lips();
    private final Keys[] cameraKeys = new Keys[3];
    private final Screen screen = new Screen();
    // one row more, into which samples are read that may be refused
    private final int[][] samples = new int[TRACKS + 1][MOST_SAMPLES];
    private final int[] sampleCounts = new int[TRACKS];
    private final int[] begins = new int[TRACKS];

    public CartoonHouse() {
        for (int k = 0; k < MOST_DRAWINGS; k++) {
            drawings[k] = new Drawing();
        }
        for (int k = 0; k < LAYERS; k++) {
            layers[k] = new Layer();
        }
        for (int k = 0; k < MOST_BONES; k++) {
            bones[k] = new Bone();
        }
        for (int k = 0; k < cameraKeys.length; k++) {
            cameraKeys[k] = new Keys(CAMERA_KEYS);
        }
        for (int p = 0; p < PALETTES; p++) {
            for (int c = 1; c <= MOST_COLOURS; c++) {
                palettes[p][c] = c * 1118481;
            }
        }
    }

    // ---- texts

    public int feed(int a, int b, int c, int d, int e) {
        if (!tape.hasRoomFor(20)) {
            return FULL;
        }
        tape.putInt(a);
        tape.putInt(b);
        tape.putInt(c);
        tape.putInt(d);
        tape.putInt(e);
        return tape.length;
    }

    public int end(int n) {
        if (n < 0 || n > tape.length) {
            return NONE;
        }
        tape.length = n;
        return n;
    }

    public int out(int i) {
        return script.byteAt(i);
    }

    // ---- drawings

    public int stroke(int drawing) {
        int answer = isDrawing(drawing) ? readStroke(drawings[drawing]) : NONE;
        tape.makeEmpty();
        return answer;
    }

    public int take(int drawing, int stroke) {
        if (!isStroke(drawing, stroke)) {
            return NONE;
        }
        drawings[drawing].dropStroke(stroke);
        return drawings[drawing].strokeCount;
    }

    public int written(int drawing) {
        if (!isDrawing(drawing)) {
            return NONE;
        }
        script.makeEmpty();
        drawings[drawing].writeTo(script);
        return script.length;
    }

    public int fit(int drawing, int stroke, int error) {
        if (!isStroke(drawing, stroke) || !isWithin(error, 0, 20)) {
            return NONE;
        }
        Stroke fitted = drawings[drawing].strokes[stroke];
        fitted.thinOut(error);
        return fitted.points;
    }

    public int erase(int drawing, int x, int y, int r) {
        if (!isDrawing(drawing) || !isOnPaper(x, y) || !isWithin(r, 0, 10)) {
            return NONE;
        }
        int gone = desk.becomeErased(drawings[drawing], x, y, r);
        if (gone >= 0) {
            drawings[drawing].copyStrokes(desk);
        }
        return gone;
    }

    public int meets(int drawing, int stroke, int other) {
        if (!isStroke(drawing, stroke) || !isStroke(drawing, other) || stroke == other) {
            return NONE;
        }
        return drawings[drawing].strokes[stroke].meetings(drawings[drawing].strokes[other]);
    }

    public int area(int drawing, int stroke) {
        if (!isStroke(drawing, stroke)) {
            return -1000000;
        }
        return drawings[drawing].strokes[stroke].twiceTheArea();
    }

    public int fill(int drawing, int x, int y, int gap, int colour) {
        if (!isDrawing(drawing) || !isOnPaper(x, y) || !isWithin(gap, 0, 8) || !isColour(colour)) {
            return NONE;
        }
        Drawing filled = drawings[drawing];
        if (filled.fillCount >= MOST_FILLS) {
            return FULL;
        }
        int size = canvas.regionOf(filled, pixel(x, y), gap);
        if (size > 0) {
            filled.addFill(pixel(x, y), gap, colour);
        }
        return size;
    }

    public int unfill(int drawing, int fill) {
        if (!isFill(drawing, fill)) {
            return NONE;
        }
        drawings[drawing].dropFill(fill);
        return drawings[drawing].fillCount;
    }

    public int region(int drawing, int fill) {
        if (!isFill(drawing, fill)) {
            return NONE;
        }
        Drawing filled = drawings[drawing];
        return canvas.regionOf(filled, filled.seeds[fill], filled.gaps[fill]);
    }

    public int paint(int drawing, int x, int y) {
        if (!isDrawing(drawing) || !isOnPaper(x, y)) {
            return NONE;
        }
        canvas.drawPaint(drawings[drawing]);
        return canvas.painted[pixel(x, y)];
    }

    public int colour(int palette, int colour, int rgb) {
        if (!isWithin(palette, 0, PALETTES - 1) || !isColour(colour) || !isWithin(rgb, 0, MOST_RGB)) {
            return NONE;
        }
        int before = palettes[palette][colour];
        palettes[palette][colour] = rgb;
        return before;
    }

    // ---- the sheet

    public int sheet(int layer) {
        int answer = isLayer(layer) ? layers[layer].readRow(tape) : NONE;
        tape.makeEmpty();
        return answer;
    }

    public int shown(int layer, int frame) {
        return isLayer(layer) ? layers[layer].drawingAt(frame) : NONE;
    }

    public int stretch(int layer, int a, int b) {
        if (!isLayer(layer) || !isWithin(a, 1, 20) || !isWithin(b, 1, 20)) {
            return NONE;
        }
        return layers[layer].stretchBy(a, b);
    }

    public int told(int layer) {
        if (!isLayer(layer)) {
            return NONE;
        }
        script.makeEmpty();
        layers[layer].writeTo(script);
        return script.length;
    }

    // ---- in-betweens

    public int mark(int i, int j) {
        if (!isWithin(i, 0, MOST_STROKES - 1) || !isWithin(j, 0, MOST_STROKES - 1)) {
            return NONE;
        }
        return matching.addMark(i, j);
    }

    public int unmark() {
        int before = matching.markCount;
        matching.markCount = 0;
        return before;
    }

    public int match(int drawing, int other) {
        if (!isDrawing(drawing) || !isDrawing(other)) {
            return NONE;
        }
        int sum = matching.findBest(drawings[drawing], drawings[other]);
        matching.remember();
        return sum;
    }

    public int partner(int stroke) {
        return matching.rememberedPartner(stroke);
    }

    public int tween(int drawing, int other, int a, int b, int into) {
        if (!isDrawing(drawing) || !isDrawing(other) || !isDrawing(into)) {
            return NONE;
        }
        if (!isWithin(b, 1, 24) || !isWithin(a, 0, b) || into == drawing || into == other) {
            return NONE;
        }
        Drawing third = drawings[into];
        if (a == 0) {
            third.copyStrokes(drawings[drawing]);
        } else if (a == b) {
            third.copyStrokes(drawings[other]);
        } else {
            matching.findBest(drawings[drawing], drawings[other]);
            third.becomeBetween(drawings[drawing], drawings[other], matching.best, a, b);
        }
        third.copyFills(drawings[2 * a < b ? drawing : other]);
        return third.strokeCount;
    }

    // ---- the puppet

    public int bone(int parent, int length, int low, int high) {
        boolean isParent = boneCount == 0 ? parent == NONE : isBone(parent);
        if (!isParent || !isWithin(length, 0, 40) || !isWithin(high, 0, TURN - 1) || !isWithin(low, 0, high)) {
            return NONE;
        }
        if (boneCount >= MOST_BONES) {
            return FULL;
        }
        bones[boneCount].become(boneCount == 0 ? root : bones[parent], length, low, high);
        boneCount++;
        return boneCount - 1;
    }

    public int pivot(int x, int y) {
        if (!isNear(x, y)) {
            return NONE;
        }
        pivotX = x;
        pivotY = y;
        return 1;
    }

    public int key(int bone, int frame, int angle) {
        if (!isBone(bone) || !isFrame(frame) || !isWithin(angle, bones[bone].low, bones[bone].high)) {
            return NONE;
        }
        Keys keys = bones[bone].keys;
        if (!keys.hasRoomAt(frame)) {
            return FULL;
        }
        keys.put(frame, angle);
        return keys.length;
    }

    public int angle(int bone, int frame) {
        if (!isBone(bone) || !isFrame(frame)) {
            return NONE;
        }
        return bones[bone].angleAt(frame);
    }

    public int at(int bone, int frame, int axis) {
        if (!isBone(bone) || !isFrame(frame) || !isWithin(axis, 0, 1)) {
            return -100000;
        }
        return (axis == 0 ? pivotX : pivotY) + bones[bone].endAt(frame, axis);
    }

    public int reach(int bone, int frame, int x, int y) {
        if (!isBone(bone) || !isFrame(frame) || !isNear(x, y)) {
            return NONE;
        }
        Bone low = bones[bone];
        Bone middle = low.above();
        Bone top = middle.above();
        if (!canKey(low, frame) || !canKey(middle, frame) || !canKey(top, frame)) {
            return FULL;
        }
        int found = low.nearestAngles(frame, x - pivotX, y - pivotY);
        setKey(top, frame, found / (TURN * TURN));
        setKey(middle, frame, found / TURN % TURN);
        setKey(low, frame, found % TURN);
        int dx = pivotX + low.endAt(frame, 0) - x;
        int dy = pivotY + low.endAt(frame, 1) - y;
        return dx * dx + dy * dy;
    }

    public int swing(int bone, int frame, int stiff, int damp) {
        if (!isBone(bone) || !isFrame(frame) || !isWithin(stiff, 0, 16) || !isWithin(damp, 0, 16)) {
            return -1000000000;
        }
        return bones[bone].springAt(frame, stiff, damp);
    }

    // ---- lips

    public int language() {
        int answer = lips.readLanguage(tape);
        tape.makeEmpty();
        return answer;
    }

    public int letter(int k) {
        return isWithin(k, 0, LETTERS - 1) ? lips.letters[k] : NONE;
    }

    public int speech() {
        int answer = lips.readSpeech(tape);
        tape.makeEmpty();
        return answer;
    }

    public int mouth(int i, int what) {
        return lips.tellMouth(i, what);
    }

    public int blink(int seed, int frame) {
        if (!isWithin(frame, 0, 9999)) {
            return NONE;
        }
        int state = seed * 1103515245 + 12345;
        int begin = 20 + (state >>> 16) % 32;
        for (int k = 0; k < 10000 && begin + 3 <= frame; k++) {
            state = state * 1103515245 + 12345;
            begin += 24 + (state >>> 16) % 64;
        }
        return begin <= frame && frame < begin + 3 ? 1 : 0;
    }

    // ---- the camera

    public int camera(int frame, int x, int y, int zoom) {
        if (!isFrame(frame) || !isNear(x, y) || (zoom != 0 && !isWithin(zoom, 16, 256))) {
            return NONE;
        }
        if (zoom == 0) {
            for (int k = 0; k < cameraKeys.length; k++) {
                cameraKeys[k].drop(frame);
            }
            return cameraKeys[0].length;
        }
        if (!cameraKeys[0].hasRoomAt(frame)) {
            return FULL;
        }
        cameraKeys[0].put(frame, x);
        cameraKeys[1].put(frame, y);
        cameraKeys[2].put(frame, zoom);
        return cameraKeys[0].length;
    }

    public int depth(int layer, int depth) {
        if (!isLayer(layer) || !isWithin(depth, 16, 1024)) {
            return NONE;
        }
        int before = layers[layer].depth;
        layers[layer].depth = depth;
        return before;
    }

    public int seen(int layer, int x, int y, int frame, int axis) {
        if (!isLayer(layer) || !isNear(x, y) || !isFrame(frame) || !isWithin(axis, 0, 1)) {
            return -1000000;
        }
        long depth = layers[layer].depth;
        int middle = axis == 0 ? MIDDLE_X : MIDDLE_Y;
        long away = (axis == 0 ? x : y) - middle;
        return middle + round((away * depth - 64 * cameraAt(axis, frame)) * zoomAt(frame), 64 * depth);
    }

    public int cutOff(int layer, int from, int to) {
        if (!isLayer(layer) || !isFrame(from) || !isFrame(to)) {
            return NONE;
        }
        for (int frame = from; frame <= to; frame++) {
            boolean isFirstOn = isOnPaper(placeBehind(0, 0, layer, frame), placeBehind(0, 1, layer, frame));
            boolean isLastOn = isOnPaper(placeBehind(WIDTH - 1, 0, layer, frame),
                    placeBehind(HEIGHT - 1, 1, layer, frame));
            if (!isFirstOn || !isLastOn) {
                return frame;
            }
        }
        return NONE;
    }

    public int wiggle(int layer, int seed, int every, int most) {
        if (!isLayer(layer) || !isWithin(every, 0, 24) || !isWithin(most, 0, 3)) {
            return NONE;
        }
        layers[layer].seed = seed;
        layers[layer].every = every;
        layers[layer].most = most;
        return 1;
    }

    // ---- pictures

    public int node() {
        int answer = screen.readNode(tape);
        tape.makeEmpty();
        return answer;
    }

    public int clear() {
        int before = screen.nodeCount;
        screen.nodeCount = 0;
        return before;
    }

    public int sample(int node, int frame, int x, int y) {
        if (!isNode(node) || !isFrame(frame) || !isOnPaper(x, y)) {
            return NONE;
        }
        int value = pictureOf(node, frame)[pixel(x, y)];
        return value == CLEAR ? NONE : value;
    }

    public int drawn(int node, int frame) {
        if (!isNode(node) || !isFrame(frame)) {
            return NONE;
        }
        int[] picture = pictureOf(node, frame);
        int drawn = 0;
        for (int p = 0; p < PIXELS; p++) {
            if (picture[p] != CLEAR) {
                drawn++;
            }
        }
        return drawn;
    }

    public int film(int node, int from, int to) {
        if (!isNode(node) || !isFrame(from) || !isFrame(to) || !isWithin(to - from, 0, FILM_FRAMES - 1)) {
            return NONE;
        }
        script.makeEmpty();
        script.makeRoom(FILM_BYTES);
        screen.beginFilm();
        for (int frame = from; frame <= to; frame++) {
            screen.addToFilm(pictureOf(node, frame), script);
        }
        screen.filmBytes = script.length;
        return script.length;
    }

    public int played(int n, int x, int y) {
        if (!isWithin(n, 0, screen.filmFrames - 1) || !isOnPaper(x, y)) {
            return STATE;
        }
        int value = screen.film[n][pixel(x, y)];
        return value == CLEAR ? NONE : value;
    }

    public int flicker(int node, int frame) {
        if (!isNode(node) || !isWithin(frame, 1, MOST_FRAMES - 2)) {
            return NONE;
        }
        System.arraycopy(pictureOf(node, frame - 1), 0, screen.before, 0, PIXELS);
        System.arraycopy(pictureOf(node, frame), 0, screen.now, 0, PIXELS);
        return screen.flickers(pictureOf(node, frame + 1));
    }

    // ---- tracks

    public int track(int track, int begin) {
        boolean isRight = isWithin(track, 0, TRACKS - 1) && isWithin(begin, 0, 999);
        int answer = isRight ? readTrack(track, begin) : NONE;
        tape.makeEmpty();
        return answer;
    }

    public int mix(int k) {
        int sum = 0;
        for (int t = 0; t < TRACKS; t++) {
            // asked ahead of the difference, which could wrap for a place far below 0
            if (k >= begins[t] && k - begins[t] < sampleCounts[t]) {
                sum += samples[t][k - begins[t]];
            }
        }
        return Math.max(-128, Math.min(127, sum));
    }

    public int count(int what) {
        switch (what) {
            case 0:
                return countStrokes();
            case 1:
                return countFills();
            case 2:
                return boneCount;
            case 3:
                return screen.nodeCount;
            case 4:
                return screen.filmFrames;
            case 5:
                return screen.filmBytes;
            case 6:
                return lips.mouthCount;
            case 7:
                return matching.markCount;
            case 8:
                return cameraKeys[0].length;
            case 9:
                return tape.length;
            default:
                return NONE;
        }
    }

    // ---- what can be

    private static boolean isWithin(int value, int low, int high) {
        return low <= value && value <= high;
    }

    private static boolean isOnPaper(int x, int y) {
        return 0 <= x && x < WIDTH && 0 <= y && y < HEIGHT;
    }

    private static boolean isNear(int x, int y) {
        return isWithin(x, -FAR, FAR) && isWithin(y, -FAR, FAR);
    }

    private static boolean isFrame(int frame) {
        return isWithin(frame, 0, MOST_FRAMES - 1);
    }

    private static boolean isColour(int colour) {
        return isWithin(colour, 1, MOST_COLOURS);
    }

    private static boolean isDrawing(int drawing) {
        return isWithin(drawing, 0, MOST_DRAWINGS - 1);
    }

    private static boolean isLayer(int layer) {
        return isWithin(layer, 0, LAYERS - 1);
    }

    private boolean isStroke(int drawing, int stroke) {
        return isDrawing(drawing) && isWithin(stroke, 0, drawings[drawing].strokeCount - 1);
    }

    private boolean isFill(int drawing, int fill) {
        return isDrawing(drawing) && isWithin(fill, 0, drawings[drawing].fillCount - 1);
    }

    private boolean isBone(int bone) {
        return isWithin(bone, 0, boneCount - 1);
    }

    private boolean isNode(int node) {
        return isWithin(node, 0, screen.nodeCount - 1);
    }

    // ---- sums of the terms

    private static int pixel(int x, int y) {
        return y * WIDTH + x;
    }

    private static int round(long a, long b) {
        return b > 0 ? (int) Math.floorDiv(2 * a + b, 2 * b) : 0;
    }

    private static int kept(int value, int most) {
        return Math.max(0, Math.min(most, value));
    }

    private static int hash(int start, int a, int b, int c, int d) {
        return stir(stir(stir(stir(start, a), b), c), d);
    }

    private static int stir(int h, int next) {
        int mixed = (h ^ next) * 16777619;
        return mixed ^ (mixed >>> 15);
    }

    private static int sine(int direction) {
        int d = direction & (TURN - 1);
        int half = d & 15;
        int value = QUARTER_SINE[half <= 8 ? half : 16 - half];
        return d < 16 ? value : -value;
    }

    // ---- parts of the calls

    private int readStroke(Drawing drawing) {
        Stroke draft = desk.strokes[0];
        draft.readFrom(tape);
        if (!tape.isFine()) {
            return tape.wrong();
        }
        if (drawing.strokeCount >= MOST_STROKES) {
            return FULL;
        }
        drawing.addPart(draft, 0, draft.points - 1);
        return drawing.strokeCount - 1;
    }

    private int countStrokes() {
        int sum = 0;
        for (int k = 0; k < MOST_DRAWINGS; k++) {
            sum += drawings[k].strokeCount;
        }
        return sum;
    }

    private int countFills() {
        int sum = 0;
        for (int k = 0; k < MOST_DRAWINGS; k++) {
            sum += drawings[k].fillCount;
        }
        return sum;
    }

    private boolean canKey(Bone bone, int frame) {
        return bone == root || bone.keys.hasRoomAt(frame);
    }

    private void setKey(Bone bone, int frame, int angle) {
        if (bone != root) {
            bone.keys.put(frame, angle);
        }
    }

    private int readTrack(int track, int begin) {
        tape.startReading();
        int[] draft = samples[TRACKS];
        int length = 0;
        boolean isMore = tape.hasMore();
        for (int k = 0; isMore && k <= MOST_SAMPLES; k++) {
            if (length < MOST_SAMPLES) {
                draft[length] = tape.readInt(-100, 100);
                length++;
            } else {
                tape.refuse(tape.place);
            }
            isMore = tape.goesOn();
        }
        if (!tape.isFine()) {
            return tape.wrong();
        }
        System.arraycopy(draft, 0, samples[track], 0, length);
        sampleCounts[track] = length;
        begins[track] = begin;
        return length;
    }

    private long cameraAt(int axis, int frame) {
        return cameraKeys[axis].valueAt(frame, 0);
    }

    private long zoomAt(int frame) {
        return cameraKeys[2].valueAt(frame, 64);
    }

    private int placeBehind(int place, int axis, int layer, int frame) {
        long depth = layers[layer].depth;
        long zoom = zoomAt(frame);
        int middle = axis == 0 ? MIDDLE_X : MIDDLE_Y;
        long away = place - middle;
        return middle + round(away * 64 * depth + 64 * cameraAt(axis, frame) * zoom, zoom * depth);
    }

    /** Nodes tell of nodes with a less number alone, so the needed ones can be drawn in their order. */
    private int[] pictureOf(int node, int frame) {
        screen.findNeeded(node);
        for (int n = 0; n <= node; n++) {
            if (screen.isNeeded[n]) {
                if (screen.kinds[n] == Kind.LAYER) {
                    drawLayer(n, frame);
                } else {
                    screen.drawNode(n, frame);
                }
            }
        }
        return screen.pictures[node];
    }

    private void drawLayer(int n, int frame) {
        int layer = screen.tells[n][0];
        Arrays.fill(screen.pictures[n], CLEAR);
        int shown = layers[layer].drawingAt(frame);
        if (shown == NONE) {
            return;
        }
        if (layers[layer].every > 0) {
            desk.becomeWiggled(drawings[shown], layers[layer], frame);
            canvas.drawPaint(desk);
        } else {
            canvas.drawPaint(drawings[shown]);
        }
        for (int x = 0; x < WIDTH; x++) {
            screen.columns[x] = placeBehind(x, 0, layer, frame);
        }
        for (int y = 0; y < HEIGHT; y++) {
            screen.rows[y] = placeBehind(y, 1, layer, frame);
        }
        screen.project(n, canvas.painted, palettes[screen.tells[n][1]]);
    }

    /** A row of bytes: THE TAPE is read from the left, THE OUT is written. */
    private static final class Bytes {
        private byte[] row;
        private int length;
        private int place;
        private int fault;

        Bytes(int room) {
            row = new byte[room];
        }

        void makeEmpty() {
            length = 0;
        }

        /** THE OUT is small till the first film, which few runs take. */
        void makeRoom(int room) {
            if (row.length < room) {
                row = Arrays.copyOf(row, room);
            }
        }

        boolean hasRoomFor(int more) {
            return length + more <= row.length;
        }

        void put(int value) {
            if (length < row.length) {
                row[length] = (byte) value;
                length++;
            }
        }

        void putInt(int value) {
            put(value >>> 24);
            put(value >>> 16);
            put(value >>> 8);
            put(value);
        }

        /** All numbers that are written have two digits at most. */
        void putNumber(int value) {
            if (value >= 10) {
                put('0' + value / 10);
            }
            put('0' + value % 10);
        }

        int byteAt(int i) {
            return i >= 0 && i < length ? row[i] & 255 : NONE;
        }

        void startReading() {
            place = 0;
            fault = NONE;
        }

        boolean isFine() {
            return fault == NONE;
        }

        boolean hasMore() {
            return isFine() && place < length;
        }

        /** The first refusal stays: what is read behind it has no meaning any more. */
        void refuse(int where) {
            if (isFine()) {
                fault = where;
            }
        }

        int wrong() {
            return -1000 - fault;
        }

        int next() {
            return byteAt(place);
        }

        boolean nextIsWithin(int low, int high) {
            int next = byteAt(place);
            return low <= next && next <= high;
        }

        boolean skip(int wanted) {
            boolean isThere = isFine() && byteAt(place) == wanted;
            if (isThere) {
                place++;
            }
            return isThere;
        }

        void expect(int wanted) {
            if (!skip(wanted)) {
                refuse(place);
            }
        }

        /** Whether a further thing comes, with the blank ahead of it. */
        boolean goesOn() {
            if (!hasMore()) {
                return false;
            }
            expect(' ');
            return isFine();
        }

        int readNumber(int low, int high) {
            int first = place;
            int value = readDigits();
            if (value < low || value > high) {
                refuse(first);
            }
            return value;
        }

        int readInt(int low, int high) {
            int first = place;
            boolean isMinus = skip('-');
            if (isMinus && next() == '0') {
                refuse(place);
            }
            int value = isMinus ? -readDigits() : readDigits();
            if (value < low || value > high) {
                refuse(first);
            }
            return value;
        }

        private int readDigits() {
            int value = 0;
            int digits = 0;
            for (int k = 0; k < 10 && isFine() && nextIsWithin('0', '9'); k++) {
                if (digits == 9 || (digits == 1 && value == 0)) {
                    refuse(place);
                } else {
                    value = value * 10 + next() - '0';
                    digits++;
                    place++;
                }
            }
            if (digits == 0) {
                refuse(place);
            }
            return value;
        }
    }

    /** A COLOUR and POINTS. */
    private static final class Stroke {
        private int colour;
        private int points;
        private final int[] x = new int[MOST_POINTS];
        private final int[] y = new int[MOST_POINTS];

        void becomePart(Stroke other, int from, int to) {
            colour = other.colour;
            points = 0;
            for (int k = from; k <= to; k++) {
                addPoint(other.x[k], other.y[k]);
            }
        }

        void addPoint(int px, int py) {
            if (points < MOST_POINTS) {
                x[points] = px;
                y[points] = py;
                points++;
            }
        }

        boolean hasLast(int px, int py) {
            return points > 0 && x[points - 1] == px && y[points - 1] == py;
        }

        boolean areAlike(int i, int j) {
            return x[i] == x[j] && y[i] == y[j];
        }

        void readFrom(Bytes tape) {
            tape.startReading();
            points = 0;
            colour = tape.readNumber(1, MOST_COLOURS);
            for (int k = 0; k <= MOST_POINTS && tape.goesOn(); k++) {
                readPoint(tape);
            }
            if (points < 2) {
                tape.refuse(tape.place);
            }
        }

        private void readPoint(Bytes tape) {
            int first = tape.place;
            if (points >= MOST_POINTS) {
                tape.refuse(first);
            }
            int px = tape.readNumber(0, WIDTH - 1);
            tape.expect(',');
            int py = tape.readNumber(0, HEIGHT - 1);
            if (hasLast(px, py)) {
                tape.refuse(first);
            }
            addPoint(px, py);
        }

        void writeTo(Bytes script) {
            script.putNumber(colour);
            for (int k = 0; k < points; k++) {
                script.put(' ');
                script.putNumber(x[k]);
                script.put(',');
                script.putNumber(y[k]);
            }
            script.put(10);
        }

        void thinOut(int error) {
            int staying = 1;
            int latest = 0;
            for (int k = 0; k < MOST_POINTS && latest < points - 1; k++) {
                latest = nextToStay(latest, error);
                x[staying] = x[latest];
                y[staying] = y[latest];
                staying++;
            }
            points = staying;
        }

        private int nextToStay(int i, int error) {
            for (int j = points - 1; j > i + 1; j--) {
                if (!areAlike(i, j) && areClose(i, j, error)) {
                    return j;
                }
            }
            return i + 1;
        }

        private boolean areClose(int i, int j, int error) {
            int dx = x[j] - x[i];
            int dy = y[j] - y[i];
            int most = error * error * (dx * dx + dy * dy);
            for (int k = i + 1; k < j; k++) {
                int cross = dx * (y[k] - y[i]) - dy * (x[k] - x[i]);
                if (cross * cross > most) {
                    return false;
                }
            }
            return true;
        }

        boolean isSegmentHit(int s, int px, int py, int r) {
            int dx = x[s + 1] - x[s];
            int dy = y[s + 1] - y[s];
            int n = Math.max(Math.abs(dx), Math.abs(dy));
            for (int k = 0; k <= n; k++) {
                int lineX = x[s] + round(k * dx, n);
                int lineY = y[s] + round(k * dy, n);
                if (Math.abs(lineX - px) <= r && Math.abs(lineY - py) <= r) {
                    return true;
                }
            }
            return false;
        }

        int meetings(Stroke other) {
            int sum = 0;
            for (int i = 0; i < points - 1; i++) {
                for (int j = 0; j < other.points - 1; j++) {
                    if (doMeet(i, other, j)) {
                        sum++;
                    }
                }
            }
            return sum;
        }

        /** Two SEGMENTS MEET if their boxes do, and neither lies wholly to one side of the other. */
        private boolean doMeet(int i, Stroke other, int j) {
            return doOverlap(x[i], x[i + 1], other.x[j], other.x[j + 1])
                    && doOverlap(y[i], y[i + 1], other.y[j], other.y[j + 1])
                    && sideOf(i, other, j) * sideOf(i, other, j + 1) <= 0
                    && other.sideOf(j, this, i) * other.sideOf(j, this, i + 1) <= 0;
        }

        private static boolean doOverlap(int a, int b, int c, int d) {
            return Math.max(Math.min(a, b), Math.min(c, d)) <= Math.min(Math.max(a, b), Math.max(c, d));
        }

        private int sideOf(int i, Stroke other, int k) {
            return (x[i + 1] - x[i]) * (other.y[k] - y[i]) - (y[i + 1] - y[i]) * (other.x[k] - x[i]);
        }

        int twiceTheArea() {
            int sum = 0;
            for (int k = 0; k < points; k++) {
                int next = k + 1 < points ? k + 1 : 0;
                sum += x[k] * y[next] - x[next] * y[k];
            }
            return sum;
        }

        int costWith(Stroke other) {
            int cost = distance(0, other, 0) + distance(points - 1, other, other.points - 1);
            return colour == other.colour ? cost : cost + 100;
        }

        private int distance(int i, Stroke other, int j) {
            if (i < 0 || j < 0) {
                return 0;
            }
            int dx = x[i] - other.x[j];
            int dy = y[i] - other.y[j];
            return dx * dx + dy * dy;
        }

        void becomeBetween(Stroke from, Stroke to, int a, int b) {
            colour = 2 * a < b ? from.colour : to.colour;
            points = 0;
            int last = Math.max(from.points, to.points) - 1;
            for (int j = 0; j <= last; j++) {
                long ax = spread(from.x, from.points, j, last);
                long ay = spread(from.y, from.points, j, last);
                long bx = spread(to.x, to.points, j, last);
                long by = spread(to.y, to.points, j, last);
                int px = round(ax * (b - a) + bx * a, (long) last * b);
                int py = round(ay * (b - a) + by * a, (long) last * b);
                if (!hasLast(px, py)) {
                    addPoint(px, py);
                }
            }
        }

        /** Place j of last along a row, times last: so nothing is lost ahead of the one ROUND. */
        private static int spread(int[] row, int length, int j, int last) {
            if (last <= 0) {
                return 0;
            }
            int q = j * (length - 1) / last;
            int rest = j * (length - 1) % last;
            return rest == 0 ? row[q] * last : row[q] * last + (row[q + 1] - row[q]) * rest;
        }

        void becomeWiggled(Stroke other, int number, Layer layer, int beat) {
            colour = other.colour;
            points = other.points;
            for (int j = 0; j < points; j++) {
                x[j] = kept(other.x[j] + layer.wiggleOf(beat, number, j, 0), WIDTH - 1);
                y[j] = kept(other.y[j] + layer.wiggleOf(beat, number, j, 1), HEIGHT - 1);
            }
        }
    }

    /** STROKES and FILLS. */
    private static final class Drawing {
        private final Stroke[] strokes = new Stroke[MOST_STROKES];
        private int strokeCount;
        private final int[] seeds = new int[MOST_FILLS];
        private final int[] gaps = new int[MOST_FILLS];
        private final int[] colours = new int[MOST_FILLS];
        private int fillCount;

        Drawing() {
            for (int k = 0; k < MOST_STROKES; k++) {
                strokes[k] = new Stroke();
            }
        }

        boolean addPart(Stroke other, int from, int to) {
            if (strokeCount >= MOST_STROKES) {
                return false;
            }
            strokes[strokeCount].becomePart(other, from, to);
            strokeCount++;
            return true;
        }

        void dropStroke(int stroke) {
            Stroke gone = strokes[stroke];
            for (int k = stroke; k < strokeCount - 1; k++) {
                strokes[k] = strokes[k + 1];
            }
            // the one that went stays behind the others, to be used again
            strokes[strokeCount - 1] = gone;
            strokeCount--;
        }

        void copyStrokes(Drawing other) {
            strokeCount = 0;
            for (int k = 0; k < other.strokeCount; k++) {
                addPart(other.strokes[k], 0, other.strokes[k].points - 1);
            }
        }

        void writeTo(Bytes script) {
            for (int k = 0; k < strokeCount; k++) {
                strokes[k].writeTo(script);
            }
        }

        /** How many SEGMENTS went, or FULL. */
        int becomeErased(Drawing other, int px, int py, int r) {
            strokeCount = 0;
            int gone = 0;
            boolean doAllFit = true;
            for (int k = 0; k < other.strokeCount; k++) {
                Stroke stroke = other.strokes[k];
                int begin = 0;
                for (int s = 0; s < stroke.points - 1; s++) {
                    if (stroke.isSegmentHit(s, px, py, r)) {
                        if (begin < s && !addPart(stroke, begin, s)) {
                            doAllFit = false;
                        }
                        begin = s + 1;
                        gone++;
                    }
                }
                if (begin < stroke.points - 1 && !addPart(stroke, begin, stroke.points - 1)) {
                    doAllFit = false;
                }
            }
            return doAllFit ? gone : FULL;
        }

        void becomeBetween(Drawing from, Drawing to, int[] partners, int a, int b) {
            strokeCount = 0;
            boolean isEarly = 2 * a < b;
            int paired = 0;
            for (int i = 0; i < from.strokeCount; i++) {
                if (partners[i] < to.strokeCount) {
                    paired |= 1 << partners[i];
                    addBetween(from.strokes[i], to.strokes[partners[i]], a, b);
                } else if (isEarly) {
                    addPart(from.strokes[i], 0, from.strokes[i].points - 1);
                }
            }
            for (int j = 0; j < to.strokeCount && !isEarly; j++) {
                if ((paired >> j & 1) == 0) {
                    addPart(to.strokes[j], 0, to.strokes[j].points - 1);
                }
            }
        }

        private void addBetween(Stroke from, Stroke to, int a, int b) {
            if (strokeCount < MOST_STROKES) {
                strokes[strokeCount].becomeBetween(from, to, a, b);
                if (strokes[strokeCount].points >= 2) {
                    strokeCount++;
                }
            }
        }

        void becomeWiggled(Drawing other, Layer layer, int frame) {
            strokeCount = other.strokeCount;
            int beat = layer.beatOf(frame);
            for (int i = 0; i < strokeCount; i++) {
                strokes[i].becomeWiggled(other.strokes[i], i, layer, beat);
            }
            copyFills(other);
        }

        void addFill(int seed, int gap, int colour) {
            if (fillCount < MOST_FILLS) {
                seeds[fillCount] = seed;
                gaps[fillCount] = gap;
                colours[fillCount] = colour;
                fillCount++;
            }
        }

        void dropFill(int fill) {
            for (int k = fill; k < fillCount - 1; k++) {
                seeds[k] = seeds[k + 1];
                gaps[k] = gaps[k + 1];
                colours[k] = colours[k + 1];
            }
            fillCount--;
        }

        void copyFills(Drawing other) {
            fillCount = 0;
            for (int k = 0; k < other.fillCount; k++) {
                addFill(other.seeds[k], other.gaps[k], other.colours[k]);
            }
        }
    }

    /** The paper on which a drawing is looked at: its INK, WALLS, REGIONS, PAINT. */
    private static final class Canvas {
        private static final int REACHED = 100;
        private final int[] ink = new int[PIXELS];
        private final int[] painted = new int[PIXELS];
        private final int[] walls = new int[PIXELS];
        private final int[] reached = new int[PIXELS];
        private int reachedCount;
        private boolean isOpen;
        private final int[] endX = new int[2 * MOST_STROKES];
        private final int[] endY = new int[2 * MOST_STROKES];
        private int endCount;

        int regionOf(Drawing drawing, int seed, int gap) {
            drawInk(drawing);
            findRegion(seed, gap);
            return isOpen ? OPEN : reachedCount;
        }

        void drawPaint(Drawing drawing) {
            drawInk(drawing);
            System.arraycopy(ink, 0, painted, 0, PIXELS);
            for (int f = 0; f < drawing.fillCount; f++) {
                findRegion(drawing.seeds[f], drawing.gaps[f]);
                for (int k = 0; k < reachedCount && !isOpen; k++) {
                    painted[reached[k]] = drawing.colours[f];
                }
            }
        }

        private void drawInk(Drawing drawing) {
            Arrays.fill(ink, 0);
            endCount = 0;
            for (int i = 0; i < drawing.strokeCount; i++) {
                Stroke stroke = drawing.strokes[i];
                for (int s = 0; s < stroke.points - 1; s++) {
                    drawLine(ink, stroke.colour, stroke.x[s], stroke.y[s], stroke.x[s + 1], stroke.y[s + 1]);
                }
                if (stroke.points > 0 && !stroke.areAlike(0, stroke.points - 1)) {
                    addEnd(stroke, 0);
                    addEnd(stroke, stroke.points - 1);
                }
            }
        }

        private void addEnd(Stroke stroke, int point) {
            if (endCount < endX.length) {
                endX[endCount] = stroke.x[point];
                endY[endCount] = stroke.y[point];
                endCount++;
            }
        }

        private static void drawLine(int[] target, int value, int ax, int ay, int bx, int by) {
            int dx = bx - ax;
            int dy = by - ay;
            int n = Math.max(Math.abs(dx), Math.abs(dy));
            for (int k = 0; k <= n; k++) {
                int x = n == 0 ? ax : ax + Math.floorDiv(2 * k * dx + n, 2 * n);
                int y = n == 0 ? ay : ay + Math.floorDiv(2 * k * dy + n, 2 * n);
                if (isOnPaper(x, y)) {
                    target[pixel(x, y)] = value;
                }
            }
        }

        private void findRegion(int seed, int gap) {
            raiseWalls(gap);
            reachedCount = 0;
            isOpen = false;
            comeTo(seed);
            // once it is OPEN nobody asks for the rest of it
            for (int k = 0; k < PIXELS && k < reachedCount && !isOpen; k++) {
                int p = reached[k];
                comeTo(p - 1);
                comeTo(p + 1);
                comeTo(p - WIDTH);
                comeTo(p + WIDTH);
            }
        }

        private void raiseWalls(int gap) {
            System.arraycopy(ink, 0, walls, 0, PIXELS);
            for (int i = 0; i < endCount; i++) {
                for (int j = i + 1; j < endCount; j++) {
                    int dx = endX[j] - endX[i];
                    int dy = endY[j] - endY[i];
                    int squared = dx * dx + dy * dy;
                    if (squared > 0 && squared <= gap * gap) {
                        drawLine(walls, 1, endX[i], endY[i], endX[j], endY[j]);
                    }
                }
            }
        }

        /** A PIXEL of the border makes the REGION OPEN, so no step ever leaves a row at its side. */
        private void comeTo(int p) {
            if (p >= 0 && p < PIXELS && reachedCount < PIXELS && walls[p] == 0) {
                walls[p] = REACHED;
                reached[reachedCount] = p;
                reachedCount++;
                int column = p % WIDTH;
                if (column == 0 || column == WIDTH - 1 || p < WIDTH || p >= PIXELS - WIDTH) {
                    isOpen = true;
                }
            }
        }
    }

    /** A LAYER: its ROW of the sheet, DEPTH and WIGGLE. */
    private static final class Layer {
        private final int[] row = new int[MOST_FRAMES];
        private int length;
        private final int[] draft = new int[MOST_FRAMES];
        private int drafted;
        private int depth = 64;
        private int seed;
        private int every;
        private int most;

        int drawingAt(int frame) {
            return frame >= 0 && frame < length ? row[frame] : NONE;
        }

        int readRow(Bytes tape) {
            tape.startReading();
            drafted = 0;
            boolean isMore = tape.hasMore();
            for (int k = 0; isMore && k < TAPE_ROOM; k++) {
                if (tape.next() == '(') {
                    readBracket(tape);
                } else {
                    readItem(tape);
                }
                isMore = tape.goesOn();
            }
            if (!tape.isFine()) {
                return tape.wrong();
            }
            keepDraft();
            return length;
        }

        private void keepDraft() {
            System.arraycopy(draft, 0, row, 0, drafted);
            length = drafted;
        }

        private void readItem(Bytes tape) {
            int first = tape.place;
            int what = tape.skip('-') ? NONE : tape.readNumber(0, MOST_DRAWINGS - 1);
            int times = tape.skip('*') ? tape.readNumber(1, 99) : 1;
            if (drafted + times > MOST_FRAMES) {
                tape.refuse(first);
            }
            for (int k = 0; k < times && tape.isFine(); k++) {
                draft[drafted] = what;
                drafted++;
            }
        }

        private void readBracket(Bytes tape) {
            int first = tape.place;
            int begin = drafted;
            tape.expect('(');
            boolean isMore = true;
            for (int k = 0; isMore && k < TAPE_ROOM; k++) {
                readItem(tape);
                isMore = tape.next() != ')' && tape.goesOn();
            }
            tape.expect(')');
            tape.expect('*');
            int times = tape.readNumber(1, 20);
            int once = drafted - begin;
            if (drafted + once * (times - 1) > MOST_FRAMES) {
                tape.refuse(first);
            }
            for (int k = once; k < once * times && tape.isFine(); k++) {
                draft[drafted] = draft[drafted - once];
                drafted++;
            }
        }

        int stretchBy(int a, int b) {
            if (a <= 0 || b <= 0) {
                return NONE;
            }
            int wanted = length * a / b;
            if (wanted > MOST_FRAMES) {
                return FULL;
            }
            for (int f = 0; f < wanted; f++) {
                draft[f] = drawingAt(f * b / a);
            }
            drafted = wanted;
            keepDraft();
            return length;
        }

        void writeTo(Bytes script) {
            int begin = 0;
            for (int f = 1; f <= length; f++) {
                if (f == length || row[f] != row[begin] || f - begin == 99) {
                    writeItem(script, row[begin], f - begin);
                    begin = f;
                }
            }
        }

        private static void writeItem(Bytes script, int what, int times) {
            if (script.length > 0) {
                script.put(' ');
            }
            if (what == NONE) {
                script.put('-');
            } else {
                script.putNumber(what);
            }
            if (times > 1) {
                script.put('*');
                script.putNumber(times);
            }
        }

        int beatOf(int frame) {
            return every > 0 ? frame / every : 0;
        }

        int wiggleOf(int beat, int stroke, int point, int axis) {
            int choices = 2 * most + 1;
            return choices > 0 ? (hash(seed, beat, stroke, point, axis) >>> 8) % choices - most : 0;
        }
    }

    /** MARKS, and THE BEST MATCH by a table over the sets of the second drawing's STROKES. */
    private static final class Matching {
        private static final int ALONE = 400;
        private static final int FORBIDDEN = 1000000;
        private static final int SETS = 256;
        private final int[] markI = new int[MOST_MARKS];
        private final int[] markJ = new int[MOST_MARKS];
        private int markCount;
        private final int[] costs = new int[MOST_STROKES * (MOST_STROKES + 1)];
        private final int[] least = new int[(MOST_STROKES + 1) * SETS];
        private final int[] best = new int[MOST_STROKES];
        private final int[] found = new int[MOST_STROKES];
        private int foundCount;
        private int firstCount;
        private int secondCount;

        int addMark(int i, int j) {
            for (int k = 0; k < markCount; k++) {
                if (markI[k] == i || markJ[k] == j) {
                    return STATE;
                }
            }
            if (markCount >= MOST_MARKS) {
                return FULL;
            }
            markI[markCount] = i;
            markJ[markCount] = j;
            markCount++;
            return markCount;
        }

        void remember() {
            System.arraycopy(best, 0, found, 0, MOST_STROKES);
            foundCount = firstCount;
        }

        int rememberedPartner(int stroke) {
            if (stroke < 0 || stroke >= foundCount || found[stroke] >= MOST_STROKES) {
                return NONE;
            }
            return found[stroke];
        }

        int findBest(Drawing first, Drawing second) {
            firstCount = first.strokeCount;
            secondCount = second.strokeCount;
            for (int i = 0; i < firstCount; i++) {
                for (int j = 0; j < secondCount; j++) {
                    costs[place(i, j)] = first.strokes[i].costWith(second.strokes[j]);
                }
                costs[place(i, MOST_STROKES)] = ALONE;
            }
            for (int k = 0; k < markCount; k++) {
                if (markI[k] < firstCount && markJ[k] < secondCount) {
                    forbidOthers(markI[k], markJ[k]);
                }
            }
            fillTable();
            tracePartners();
            return least[0];
        }

        private static int place(int i, int j) {
            return i * (MOST_STROKES + 1) + j;
        }

        /** Without them STROKE i has no way but j, so j goes to no other one in a row of the least SUM. */
        private void forbidOthers(int i, int j) {
            for (int k = 0; k <= MOST_STROKES; k++) {
                if (k != j) {
                    costs[place(i, k)] = FORBIDDEN;
                }
            }
        }

        /** least[i, set]: the SUM of what STROKES i and further ones add, those in the set being taken. */
        private void fillTable() {
            int sets = 1 << secondCount;
            for (int set = 0; set < sets; set++) {
                least[firstCount * SETS + set] = ALONE * (secondCount - Integer.bitCount(set));
            }
            for (int i = firstCount - 1; i >= 0; i--) {
                for (int set = 0; set < sets; set++) {
                    int sum = sumWith(i, MOST_STROKES, set);
                    for (int j = 0; j < secondCount; j++) {
                        if ((set >> j & 1) == 0) {
                            sum = Math.min(sum, sumWith(i, j, set));
                        }
                    }
                    least[i * SETS + set] = sum;
                }
            }
        }

        private int sumWith(int i, int j, int set) {
            int after = j < MOST_STROKES ? set | 1 << j : set;
            return costs[place(i, j)] + least[(i + 1) * SETS + after];
        }

        /** Of rows with the least SUM the least: the first partner in order that keeps to it. */
        private void tracePartners() {
            int set = 0;
            for (int i = 0; i < firstCount; i++) {
                int partner = MOST_STROKES;
                for (int j = secondCount - 1; j >= 0; j--) {
                    if ((set >> j & 1) == 0 && sumWith(i, j, set) == least[i * SETS + set]) {
                        partner = j;
                    }
                }
                best[i] = partner;
                if (partner < MOST_STROKES) {
                    set |= 1 << partner;
                }
            }
        }
    }

    /** KEYS in the order of their FRAMES. */
    private static final class Keys {
        private final int[] frames;
        private final int[] values;
        private int length;

        Keys(int most) {
            frames = new int[most];
            values = new int[most];
        }

        /** How many KEYS lie ahead of a FRAME: the place of the one there, or of one to come. */
        private int ahead(int frame) {
            int k = 0;
            while (k < length && frames[k] < frame) {
                k++;
            }
            return k;
        }

        private boolean isThere(int frame) {
            int k = ahead(frame);
            return k < length && frames[k] == frame;
        }

        boolean hasRoomAt(int frame) {
            return length < frames.length || isThere(frame);
        }

        void put(int frame, int value) {
            if (!hasRoomAt(frame)) {
                return;
            }
            int k = ahead(frame);
            if (!isThere(frame)) {
                System.arraycopy(frames, k, frames, k + 1, length - k);
                System.arraycopy(values, k, values, k + 1, length - k);
                length++;
            }
            frames[k] = frame;
            values[k] = value;
        }

        void drop(int frame) {
            if (isThere(frame)) {
                int k = ahead(frame);
                System.arraycopy(frames, k + 1, frames, k, length - k - 1);
                System.arraycopy(values, k + 1, values, k, length - k - 1);
                length--;
            }
        }

        int valueAt(int frame, int otherwise) {
            if (length == 0) {
                return otherwise;
            }
            int k = ahead(frame);
            if (k == length) {
                return values[length - 1];
            }
            if (k == 0 || frames[k] == frame) {
                return values[k];
            }
            int before = values[k - 1];
            return before + round((values[k] - before) * (frame - frames[k - 1]), frames[k] - frames[k - 1]);
        }
    }

    /** A bone; the root, which has no length and never turns, stands above bone 0. */
    private static final class Bone {
        private Bone parent;
        private int low;
        private int high;
        private final Keys keys = new Keys(BONE_KEYS);
        private final int[] alongX = new int[TURN];
        private final int[] alongY = new int[TURN];

        void become(Bone above, int length, int lowest, int highest) {
            parent = above;
            low = lowest;
            high = highest;
            for (int d = 0; d < TURN; d++) {
                alongX[d] = round(length * sine(d + 8), 1024);
                alongY[d] = round(length * sine(d), 1024);
            }
        }

        Bone above() {
            return parent == null ? this : parent;
        }

        int angleAt(int frame) {
            return keys.valueAt(frame, low);
        }

        int directionAt(int frame) {
            int sum = 0;
            Bone bone = this;
            for (int k = 0; k <= MOST_BONES; k++) {
                sum += bone.angleAt(frame);
                if (bone.parent == null) {
                    break;
                }
                bone = bone.parent;
            }
            return sum & (TURN - 1);
        }

        /** How far from PIVOT the END lies. */
        int endAt(int frame, int axis) {
            int direction = directionAt(frame);
            int sum = 0;
            Bone bone = this;
            for (int k = 0; k <= MOST_BONES; k++) {
                sum += axis == 0 ? bone.alongX[direction] : bone.alongY[direction];
                direction = (direction - bone.angleAt(frame)) & (TURN - 1);
                if (bone.parent == null) {
                    break;
                }
                bone = bone.parent;
            }
            return sum;
        }

        /** The three ANGLES, the uppermost bone's first, as digits of a number to the base of a turn. */
        int nearestAngles(int frame, int x, int y) {
            Bone middle = above();
            Bone top = middle.above();
            Bone fixed = top.above();
            int turned = fixed.directionAt(frame);
            int leftX = x - fixed.endAt(frame, 0);
            int leftY = y - fixed.endAt(frame, 1);
            int nearest = FARTHEST;
            int found = 0;
            for (int a = top.low; a <= top.high; a++) {
                int first = (turned + a) & (TURN - 1);
                for (int b = middle.low; b <= middle.high; b++) {
                    int second = (first + b) & (TURN - 1);
                    int aimX = leftX - top.alongX[first] - middle.alongX[second];
                    int aimY = leftY - top.alongY[first] - middle.alongY[second];
                    for (int c = low; c <= high; c++) {
                        int third = (second + c) & (TURN - 1);
                        int dx = aimX - alongX[third];
                        int dy = aimY - alongY[third];
                        if (dx * dx + dy * dy < nearest) {
                            nearest = dx * dx + dy * dy;
                            found = (a * TURN + b) * TURN + c;
                        }
                    }
                }
            }
            return found;
        }

        int springAt(int frame, int stiff, int damp) {
            int p = 256 * angleAt(0);
            int v = 0;
            for (int f = 1; f <= frame; f++) {
                int pull = Math.floorDiv((256 * angleAt(f) - p) * stiff, 16);
                v = v + pull - Math.floorDiv(v * damp, 16);
                p += v;
            }
            return p;
        }
    }

    /** The LANGUAGE, and the MOUTHS of the SPEECH. */
    private static final class Lips {
        private final int[] letters = new int[LETTERS];
        private final int[] letterDraft = new int[LETTERS];
        private final int[] mouths = new int[MOST_FRAMES];
        private final int[] lengths = new int[MOST_FRAMES];
        private int mouthCount;
        private final int[] soundDraft = new int[MOST_FRAMES];
        private final int[] lengthDraft = new int[MOST_FRAMES];

        int readLanguage(Bytes tape) {
            tape.startReading();
            System.arraycopy(letters, 0, letterDraft, 0, LETTERS);
            int groups = 0;
            boolean isMore = true;
            for (int k = 0; isMore && k < TAPE_ROOM; k++) {
                readGroup(tape);
                groups++;
                isMore = tape.goesOn();
            }
            if (!tape.isFine()) {
                return tape.wrong();
            }
            System.arraycopy(letterDraft, 0, letters, 0, LETTERS);
            return groups;
        }

        private void readGroup(Bytes tape) {
            int first = tape.place;
            for (int k = 0; k < TAPE_ROOM && tape.nextIsWithin('a', 'z'); k++) {
                tape.place++;
            }
            int behind = tape.place;
            if (behind == first) {
                tape.refuse(first);
            }
            tape.expect('=');
            int mouth = tape.next() - '0';
            if (!tape.nextIsWithin('0', '7')) {
                tape.refuse(tape.place);
            }
            for (int k = first; k < behind && tape.isFine(); k++) {
                letterDraft[tape.byteAt(k) - 'a'] = mouth;
            }
            tape.place++;
        }

        int readSpeech(Bytes tape) {
            tape.startReading();
            int sounds = 0;
            int frames = 0;
            boolean isMore = true;
            for (int k = 0; isMore && k < MOST_FRAMES + 1; k++) {
                int first = tape.place;
                int sound = readSound(tape);
                int length = tape.readNumber(1, 99);
                frames += length;
                if (frames > MOST_FRAMES) {
                    tape.refuse(first);
                }
                if (tape.isFine()) {
                    soundDraft[sounds] = sound;
                    lengthDraft[sounds] = length;
                    sounds++;
                }
                isMore = tape.goesOn();
            }
            if (!tape.isFine()) {
                return tape.wrong();
            }
            System.arraycopy(soundDraft, 0, mouths, 0, sounds);
            System.arraycopy(lengthDraft, 0, lengths, 0, sounds);
            mouthCount = sounds;
            smooth();
            return mouthCount;
        }

        private int readSound(Bytes tape) {
            if (tape.skip('.')) {
                return 0;
            }
            if (!tape.isFine() || !tape.nextIsWithin('a', 'z')) {
                tape.refuse(tape.place);
                return 0;
            }
            int mouth = letters[tape.next() - 'a'];
            tape.place++;
            return mouth;
        }

        private void smooth() {
            joinAlike();
            for (int k = 0; k < MOST_FRAMES && mouthCount >= 2; k++) {
                int single = firstSingle();
                if (single == NONE) {
                    break;
                }
                lengths[single + 1 < mouthCount ? single + 1 : single - 1]++;
                drop(single);
                joinAlike();
            }
        }

        private int firstSingle() {
            for (int k = 0; k < mouthCount; k++) {
                if (lengths[k] == 1) {
                    return k;
                }
            }
            return NONE;
        }

        private void drop(int i) {
            System.arraycopy(mouths, i + 1, mouths, i, mouthCount - i - 1);
            System.arraycopy(lengths, i + 1, lengths, i, mouthCount - i - 1);
            mouthCount--;
        }

        private void joinAlike() {
            for (int k = mouthCount - 1; k > 0; k--) {
                if (mouths[k] == mouths[k - 1]) {
                    lengths[k - 1] += lengths[k];
                    drop(k);
                }
            }
        }

        int tellMouth(int i, int what) {
            if (i < 0 || i >= mouthCount) {
                return NONE;
            }
            switch (what) {
                case 0:
                    return mouths[i];
                case 1:
                    return firstFrame(i);
                case 2:
                    return lengths[i];
                default:
                    return NONE;
            }
        }

        private int firstFrame(int i) {
            int sum = 0;
            for (int k = 0; k < i; k++) {
                sum += lengths[k];
            }
            return sum;
        }
    }

    /**
     * What a node is: its WORD; a letter for each thing that it tells, which stands for a range; and how
     * many nodes are among these, which come first.
     */
    private enum Kind {
        PAPER("paper", "c", 0),
        LAYER("layer", "ll", 0),
        OVER("over", "nn", 2),
        SHIFT("shift", "nss", 1),
        MATTE("matte", "nn", 2),
        FADE("fade", "nnfg", 2),
        BLUR("blur", "n", 1),
        SPARKS("sparks", "hxykc", 0);

        private final String word;
        private final String tells;
        private final int nodes;

        Kind(String word, String tells, int nodes) {
            this.word = word;
            this.tells = tells;
            this.nodes = nodes;
        }

        boolean isCalled(Bytes tape, int first, int behind) {
            if (behind - first != word.length()) {
                return false;
            }
            for (int k = 0; k < word.length(); k++) {
                if (tape.byteAt(first + k) != word.charAt(k)) {
                    return false;
                }
            }
            return true;
        }
    }

    /** NODES and their pictures, and THE FILM. */
    private static final class Screen {
        private final Kind[] kinds = new Kind[MOST_NODES];
        // one row more, into which a node is read that may be refused
        private final int[][] tells = new int[MOST_NODES + 1][MOST_TELLS];
        private int nodeCount;
        private final int[][] pictures = new int[MOST_NODES][PIXELS];
        private final boolean[] isNeeded = new boolean[MOST_NODES];
        private final int[] columns = new int[WIDTH];
        private final int[] rows = new int[HEIGHT];
        private final int[] before = new int[PIXELS];
        private final int[] now = new int[PIXELS];
        private final int[][] film = new int[FILM_FRAMES][PIXELS];
        private int filmFrames;
        private int filmBytes;

        Screen() {
            for (int n = 0; n < MOST_NODES; n++) {
                kinds[n] = Kind.PAPER;
            }
        }

        int readNode(Bytes tape) {
            tape.startReading();
            Kind kind = readKind(tape);
            int[] told = tells[nodeCount];
            for (int k = 0; k < kind.tells.length(); k++) {
                tape.expect(' ');
                told[k] = readThing(tape, kind.tells.charAt(k), k > 0 ? told[k - 1] : 0);
            }
            if (tape.hasMore()) {
                tape.refuse(tape.place);
            }
            if (!tape.isFine()) {
                return tape.wrong();
            }
            if (nodeCount >= MOST_NODES) {
                return FULL;
            }
            kinds[nodeCount] = kind;
            nodeCount++;
            return nodeCount - 1;
        }

        private static Kind readKind(Bytes tape) {
            int first = tape.place;
            for (int k = 0; k < TAPE_ROOM; k++) {
                if (!tape.nextIsWithin('a', 'z') && !tape.nextIsWithin('0', '9')) {
                    break;
                }
                tape.place++;
            }
            for (int k = 0; k < KINDS.length; k++) {
                if (KINDS[k].isCalled(tape, first, tape.place)) {
                    return KINDS[k];
                }
            }
            tape.refuse(first);
            return Kind.PAPER;
        }

        private int readThing(Bytes tape, int range, int previous) {
            switch (range) {
                case 'n':
                    return tape.readNumber(0, nodeCount - 1);
                case 'l':
                    return tape.readNumber(0, LAYERS - 1);
                case 's':
                    return tape.readInt(-60, 60);
                case 'f':
                    return tape.readNumber(0, MOST_FRAMES - 1);
                case 'g':
                    return tape.readNumber(previous + 1, MOST_FRAMES - 1);
                case 'h':
                    return tape.readInt(-99999, 99999);
                case 'x':
                    return tape.readNumber(0, WIDTH - 1);
                case 'y':
                    return tape.readNumber(0, HEIGHT - 1);
                case 'k':
                    return tape.readNumber(1, 20);
                default:
                    return tape.readNumber(0, MOST_RGB);
            }
        }

        void findNeeded(int node) {
            for (int n = 0; n < MOST_NODES; n++) {
                isNeeded[n] = n == node;
            }
            for (int n = node; n >= 0; n--) {
                for (int k = 0; k < kinds[n].nodes && isNeeded[n]; k++) {
                    isNeeded[tells[n][k]] = true;
                }
            }
        }

        void drawNode(int n, int frame) {
            int[] target = pictures[n];
            int[] a = pictureTold(n, 0);
            int[] b = pictureTold(n, 1);
            switch (kinds[n]) {
                case PAPER:
                    Arrays.fill(target, tells[n][0]);
                    break;
                case OVER:
                    drawOver(target, a, b);
                    break;
                case SHIFT:
                    drawShift(target, a, tells[n][1], tells[n][2]);
                    break;
                case MATTE:
                    drawMatte(target, a, b);
                    break;
                case FADE:
                    drawFade(target, a, b, frame - tells[n][2], tells[n][3] - tells[n][2]);
                    break;
                case BLUR:
                    drawBlur(target, a);
                    break;
                case SPARKS:
                    drawSparks(target, tells[n], frame);
                    break;
                default:
                    Arrays.fill(target, CLEAR);
                    break;
            }
        }

        private int[] pictureTold(int n, int k) {
            return pictures[k < kinds[n].nodes ? tells[n][k] : n];
        }

        private static void drawOver(int[] target, int[] a, int[] b) {
            for (int p = 0; p < PIXELS; p++) {
                target[p] = a[p] == CLEAR ? b[p] : a[p];
            }
        }

        private static void drawShift(int[] target, int[] a, int right, int down) {
            for (int y = 0; y < HEIGHT; y++) {
                for (int x = 0; x < WIDTH; x++) {
                    boolean isOn = isOnPaper(x - right, y - down);
                    target[pixel(x, y)] = isOn ? a[pixel(x - right, y - down)] : CLEAR;
                }
            }
        }

        private static void drawMatte(int[] target, int[] a, int[] b) {
            for (int p = 0; p < PIXELS; p++) {
                target[p] = b[p] == CLEAR ? CLEAR : a[p];
            }
        }

        private static void drawFade(int[] target, int[] a, int[] b, int since, int m) {
            int s = kept(since, m);
            boolean isEarly = 2 * s < m;
            for (int p = 0; p < PIXELS; p++) {
                if (a[p] != CLEAR && b[p] != CLEAR) {
                    target[p] = blend(a[p], b[p], s, m);
                } else {
                    target[p] = isEarly ? a[p] : b[p];
                }
            }
        }

        private static int blend(int a, int b, int s, int m) {
            int sum = 0;
            for (int shift = 16; shift >= 0; shift -= 8) {
                sum |= round((a >> shift & 255) * (m - s) + (b >> shift & 255) * s, m) << shift;
            }
            return sum;
        }

        private static void drawBlur(int[] target, int[] a) {
            for (int y = 0; y < HEIGHT; y++) {
                for (int x = 0; x < WIDTH; x++) {
                    int p = pixel(x, y);
                    target[p] = a[p] == CLEAR ? CLEAR : blurAt(a, x, y);
                }
            }
        }

        private static int blurAt(int[] a, int x, int y) {
            int many = 0;
            int red = 0;
            int green = 0;
            int blue = 0;
            for (int v = Math.max(0, y - 1); v <= Math.min(HEIGHT - 1, y + 1); v++) {
                for (int u = Math.max(0, x - 1); u <= Math.min(WIDTH - 1, x + 1); u++) {
                    int value = a[pixel(u, v)];
                    if (value != CLEAR) {
                        many++;
                        red += value >> 16 & 255;
                        green += value >> 8 & 255;
                        blue += value & 255;
                    }
                }
            }
            return round(red, many) << 16 | round(green, many) << 8 | round(blue, many);
        }

        private static void drawSparks(int[] target, int[] told, int frame) {
            Arrays.fill(target, CLEAR);
            for (int k = 0; k < told[3]; k++) {
                int t = frame - k;
                if (t >= 0 && t <= 23) {
                    int v = (hash(told[0], k, 1, 0, 0) >>> 8) % 17 - 8;
                    int w = (hash(told[0], k, 2, 0, 0) >>> 8) % 33 - 24;
                    int x = told[1] + Math.floorDiv(v * t, 4);
                    int y = told[2] + Math.floorDiv(w * t + t * t, 8);
                    if (isOnPaper(x, y)) {
                        target[pixel(x, y)] = told[4];
                    }
                }
            }
        }

        /** Columns and rows tell for each PIXEL of the screen what place of the paper lies there. */
        void project(int n, int[] painted, int[] palette) {
            int[] target = pictures[n];
            for (int y = 0; y < HEIGHT; y++) {
                for (int x = 0; x < WIDTH; x++) {
                    if (isOnPaper(columns[x], rows[y])) {
                        int colour = painted[pixel(columns[x], rows[y])];
                        target[pixel(x, y)] = colour == 0 ? CLEAR : palette[colour];
                    }
                }
            }
        }

        void beginFilm() {
            filmFrames = 0;
            Arrays.fill(before, CLEAR);
        }

        void addToFilm(int[] picture, Bytes script) {
            if (filmFrames >= FILM_FRAMES) {
                return;
            }
            int p = 0;
            for (int k = 0; k < PIXELS && p < PIXELS; k++) {
                int same = runFrom(p, picture, true);
                int other = runFrom(p + same, picture, false);
                script.put(same);
                script.put(other);
                p += same;
                for (int j = 0; j < other; j++) {
                    putPixel(script, picture[p]);
                    p++;
                }
            }
            System.arraycopy(picture, 0, before, 0, PIXELS);
            System.arraycopy(picture, 0, film[filmFrames], 0, PIXELS);
            filmFrames++;
        }

        private int runFrom(int first, int[] picture, boolean isSame) {
            int run = 0;
            while (run < 255 && first + run < PIXELS && (picture[first + run] == before[first + run]) == isSame) {
                run++;
            }
            return run;
        }

        private static void putPixel(Bytes script, int value) {
            if (value == CLEAR) {
                script.put(0);
            } else {
                script.put(1);
                script.put(value >> 16);
                script.put(value >> 8);
                script.put(value);
            }
        }

        int flickers(int[] after) {
            int sum = 0;
            for (int p = 0; p < PIXELS; p++) {
                if (now[p] != before[p] && before[p] == after[p]) {
                    sum++;
                }
            }
            return sum;
        }
    }
}
