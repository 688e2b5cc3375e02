import java.util.Arrays;
import java.util.NoSuchElementException;

/** A picture studio: the calls of the document, each of which looks at its arguments and hands the work to a part. */
public final class PictureStudio {
    private static final int SIDE = 24;
    private static final int CELLS = 576;
    private static final int NUMBERS = 30;
    private static final int UNDOS = 24;
    private static final int BYTES = 8000;
    private static final int FED = 20;
    /** Above every sum that is looked at for the least one. */
    private static final int FAR = 1 << 30;
    /** The bytes of the rows of the greatest picture: 24 rows of a filter and 24 COLOURS. */
    private static final int ROW_BYTES = 2328;

    private static final int PIXELS = 0;
    private static final int GROUP = 1;
    private static final int FILL = 2;
    private static final int RAMP = 3;
    private static final int CURVED = 4;
    private static final int LIVE = 5;

    private static final int OVER = 0;
    private static final int ERASE = 1;
    private static final int REPLACE = 2;

    /** Stands where a LAYER has no MASK or no pixels, so that no reference is ever null. */
    private static final int[] NONE = {};
    private static final int[] SIGNATURE = {137, 80, 78, 71, 13, 10, 26, 10};
    private static final int IHDR = 0x49484452;
    private static final int PLTE = 0x504C5445;
    private static final int TRNS = 0x74524E53;
    private static final int IDAT = 0x49444154;
    private static final int IEND = 0x49454E44;
    private static final int[] LENGTH_BASE = {3, 4, 5, 6, 7, 8, 9, 10, 11, 13, 15, 17, 19, 23, 27, 31, 35, 43, 51, 59,
        67, 83, 99, 115, 131, 163, 195, 227, 258};
    private static final int[] LENGTH_EXTRA = {0, 0, 0, 0, 0, 0, 0, 0, 1, 1, 1, 1, 2, 2, 2, 2, 3, 3, 3, 3,
        4, 4, 4, 4, 5, 5, 5, 5, 0};
    private static final int[] DISTANCE_BASE = {1, 2, 3, 4, 5, 7, 9, 13, 17, 25, 33, 49, 65, 97, 129, 193, 257, 385,
        513, 769, 1025, 1537, 2049, 3073, 4097, 6145, 8193, 12289, 16385, 24577};
    private static final int[] DISTANCE_EXTRA = {0, 0, 0, 0, 1, 1, 2, 2, 3, 3, 4, 4, 5, 5, 6, 6, 7, 7,
        8, 8, 9, 9, 10, 10, 11, 11, 12, 12, 13, 13};
    private static final int[] LENGTH_ORDER = {16, 17, 18, 0, 8, 7, 9, 6, 10, 5, 11, 4, 12, 3, 13, 2, 14, 1, 15};

    private Stand now = new Stand(8, 8);
    private final Stand[] past = new Stand[UNDOS];
    private int pastCount;
    private final Stand[] undone = new Stand[UNDOS];
    private int undoneCount;
    private final Looks looks = new Looks();
    private final Viewer viewer = new Viewer(looks);
    private final Area area = new Area();
    private final Brush pen = new Brush();
    private final Paths paths = new Paths();
    private final Lab lab = new Lab();
    private final PngMaker maker = new PngMaker();
    private final PngReader reader = new PngReader();
    private final int[] input = new int[BYTES];
    private int inputLength;
    private int faultSort;
    private int faultPlace;
    private final int[] filtered = new int[CELLS];

    public PictureStudio() {
    }

    // ---- INPUT

    public int feed(int a, int b, int c, int d, int e) throws IndexOutOfBoundsException {
        if (inputLength + FED > BYTES) {
            throw new IndexOutOfBoundsException("INPUT is full");
        }
        take(a);
        take(b);
        take(c);
        take(d);
        take(e);
        return inputLength;
    }

    private void take(int four) {
        for (int shift = 24; shift >= 0 && inputLength < BYTES; shift -= 8) {
            input[inputLength] = (four >>> shift) & 255;
            inputLength++;
        }
    }

    public int end(int n) throws IllegalArgumentException {
        range(n, 0, inputLength);
        inputLength = n;
        return n;
    }

    public int fault(int what) {
        return what == 0 ? faultSort : what == 1 ? faultPlace : -1;
    }

    /** Empties INPUT for an [INPUT] call; its bytes still lie in the row until the next feed: how many they were. */
    private int takeInput() {
        int n = inputLength;
        inputLength = 0;
        faultSort = 0;
        faultPlace = 0;
        return n;
    }

    private void failInput(int sort, int place) {
        faultSort = sort;
        faultPlace = place;
        throw new UnsupportedOperationException("something is wrong in INPUT");
    }

    // ---- What calls look at first

    private static void range(int v, int least, int greatest) {
        if (v < least || v > greatest) {
            throw new IllegalArgumentException("a number is out of range");
        }
    }

    private Layer known(int l) {
        Layer found = now.find(l);
        if (found == null) {
            throw new NoSuchElementException("no such LAYER");
        }
        return found;
    }

    private Layer knownPixels(int l) {
        Layer found = known(l);
        if (found.kind != PIXELS || found.pixels.length != CELLS) {
            throw new IllegalArgumentException("the LAYER isn't PIXELS");
        }
        return found;
    }

    private void needParent(int parent) {
        if (!now.holds(parent)) {
            throw new NoSuchElementException("no such PARENT");
        }
    }

    private void needPlace(int x, int y) {
        if (x < 0 || y < 0 || x >= now.w || y >= now.h) {
            throw new NoSuchElementException("no such place");
        }
    }

    private void needNumber() {
        if (now.next >= NUMBERS) {
            throw new IndexOutOfBoundsException("no number of a LAYER is left");
        }
    }

    private static void refuse(boolean so) {
        if (so) {
            throw new IllegalStateException("it can't be done in this state");
        }
    }

    // ---- HISTORY

    private void remember(Stand next) {
        if (pastCount >= UNDOS) {
            for (int i = 1; i < UNDOS; i++) {
                past[i - 1] = past[i];
            }
            pastCount = UNDOS - 1;
        }
        past[pastCount] = now;
        pastCount++;
        undoneCount = 0;
        now = next;
    }

    /** An EDIT that may change all that is seen. */
    private void become(Stand next) {
        remember(next);
        viewer.forgetAll();
    }

    private void replaceLayer(Layer changed) {
        Stand next = now.again();
        next.exchange(changed);
        become(next);
    }

    private void replacePixels(Layer old, int[] pixels) {
        Layer changed = old.again();
        changed.pixels = pixels;
        replaceLayer(changed);
    }

    /** An EDIT that changes pixels within a box: only TILES that meet it are forgotten. */
    private int repaint(Layer old, int[] pixels) {
        Layer changed = old.again();
        changed.pixels = pixels;
        int left = SIDE;
        int right = -1;
        int top = SIDE;
        int bottom = -1;
        int many = 0;
        for (int y = 0; y < now.h; y++) {
            for (int x = 0; x < now.w; x++) {
                int i = y * now.w + x;
                if (pixels[i] != old.pixels[i]) {
                    many++;
                    left = Math.min(left, x);
                    right = Math.max(right, x);
                    top = Math.min(top, y);
                    bottom = Math.max(bottom, y);
                }
            }
        }
        if (many > 0) {
            int reach = now.reach();
            viewer.forgetBox(left + old.dx - reach, top + old.dy - reach, right + old.dx + reach, bottom + old.dy + reach);
        }
        Stand next = now.again();
        next.exchange(changed);
        remember(next);
        return many;
    }

    public int undo() throws IllegalStateException {
        Stand before = pastCount > 0 ? past[pastCount - 1] : null;
        if (before == null || undoneCount >= UNDOS) {
            throw new IllegalStateException("no EDIT can be undone");
        }
        undone[undoneCount] = now;
        undoneCount++;
        pastCount--;
        now = before;
        viewer.forgetAll();
        return pastCount;
    }

    public int redo() throws IllegalStateException {
        Stand behind = undoneCount > 0 ? undone[undoneCount - 1] : null;
        if (behind == null || pastCount >= UNDOS) {
            throw new IllegalStateException("no EDIT can be done again");
        }
        past[pastCount] = now;
        pastCount++;
        undoneCount--;
        now = behind;
        viewer.forgetAll();
        return pastCount;
    }

    // ---- The tree of LAYERS

    public void open(int w, int h) throws IllegalArgumentException {
        range(w, 1, SIDE);
        range(h, 1, SIDE);
        now = new Stand(w, h);
        pastCount = 0;
        undoneCount = 0;
        area.restart(w, h);
        viewer.forgetAll();
    }

    public int layer(int kind, int parent, int at)
            throws IllegalArgumentException, NoSuchElementException, IndexOutOfBoundsException {
        range(kind, PIXELS, LIVE);
        needParent(parent);
        range(at, 0, now.among(parent));
        needNumber();
        return addLayer(new Layer(now.next, kind, parent), at);
    }

    private int addLayer(Layer fresh, int at) {
        Stand next = now.again();
        next.insert(fresh, at);
        next.next++;
        become(next);
        return fresh.number;
    }

    private int addPixels(int[] pixels) {
        Layer fresh = new Layer(now.next, PIXELS, -1);
        fresh.pixels = pixels;
        return addLayer(fresh, now.among(-1));
    }

    public void drop(int l) throws NoSuchElementException {
        known(l);
        Stand next = now.again();
        next.removeInside(l);
        next.remove(l);
        become(next);
    }

    public void move(int l, int parent, int at)
            throws IllegalArgumentException, NoSuchElementException, IllegalStateException {
        Layer old = known(l);
        needParent(parent);
        range(at, 0, now.among(parent) - (old.parent == parent ? 1 : 0));
        refuse(parent == l || now.isIn(parent, l));
        Layer changed = old.again();
        changed.parent = parent;
        Stand next = now.again();
        next.remove(l);
        next.insert(changed, at);
        become(next);
    }

    public void set(int l, int what, int v) throws IllegalArgumentException, NoSuchElementException {
        range(what, 0, 5);
        switch (what) {
            case 0: range(v, 0, 255); break;
            case 1: range(v, 0, 15); break;
            case 2: case 3: range(v, 0, 1); break;
            default: range(v, -64, 64); break;
        }
        Layer changed = known(l).again();
        switch (what) {
            case 0: changed.opacity = v; break;
            case 1: changed.mode = v; break;
            case 2: changed.shown = v == 1; break;
            case 3: changed.clipped = v == 1; break;
            case 4: changed.dx = v; break;
            default: changed.dy = v; break;
        }
        replaceLayer(changed);
    }

    public void mask(int l, int how) throws IllegalArgumentException, NoSuchElementException, IllegalStateException {
        range(how, 0, 3);
        Layer old = known(l);
        refuse(how == 2 && old.mask.length != CELLS);
        Layer changed = old.again();
        changed.mask = how == 0 ? NONE : new int[CELLS];
        for (int i = 0; i < changed.mask.length; i++) {
            changed.mask[i] = how == 1 ? area.values[i] : how == 2 ? 255 - old.mask[i] : 255;
        }
        replaceLayer(changed);
    }

    public void colours(int l, int p, int q) throws IllegalArgumentException, NoSuchElementException {
        Layer old = known(l);
        range(old.kind, FILL, LIVE);
        if (old.kind == CURVED) {
            range(p, 0, 7);
        }
        if (old.kind == LIVE) {
            needFilter(p, q);
        }
        Layer changed = old.again();
        changed.p = p;
        changed.q = old.kind == RAMP || old.kind == LIVE ? q : 0;
        replaceLayer(changed);
    }

    private static void needFilter(int kind, int n) {
        range(kind, 0, 13);
        range(n, Looks.leastAmount(kind), Looks.greatestAmount(kind));
    }

    public void ramp(int l, int x0, int y0, int x1, int y1) throws IllegalArgumentException, NoSuchElementException {
        range(x0, -100, 100);
        range(y0, -100, 100);
        range(x1, -100, 100);
        range(y1, -100, 100);
        Layer old = known(l);
        range(old.kind, RAMP, RAMP);
        Layer changed = old.again();
        changed.x0 = x0;
        changed.y0 = y0;
        changed.x1 = x1;
        changed.y1 = y1;
        replaceLayer(changed);
    }

    public void turn(int l, int how) throws IllegalArgumentException, NoSuchElementException, IllegalStateException {
        range(how, 0, 2);
        Layer old = knownPixels(l);
        int w = now.w;
        int h = now.h;
        refuse(how == 2 && w != h);
        int[] pixels = new int[CELLS];
        for (int y = 0; y < h; y++) {
            for (int x = 0; x < w; x++) {
                pixels[y * w + x] = how == 0 ? old.own(w - 1 - x, y, w, h)
                    : how == 1 ? old.own(x, h - 1 - y, w, h) : old.own(y, x, w, h);
            }
        }
        replacePixels(old, pixels);
    }

    public void scale(int l, int n, int d, boolean smooth) throws IllegalArgumentException, NoSuchElementException {
        range(n, 1, 16);
        range(d, 1, 16);
        Layer old = knownPixels(l);
        int w = now.w;
        int h = now.h;
        int[] pixels = new int[CELLS];
        for (int y = 0; y < h; y++) {
            for (int x = 0; x < w; x++) {
                pixels[y * w + x] = smooth
                    ? old.between((2 * x + 1) * d * 8 / n - 8, (2 * y + 1) * d * 8 / n - 8, w, h)
                    : old.own((2 * x + 1) * d / (2 * n), (2 * y + 1) * d / (2 * n), w, h);
            }
        }
        replacePixels(old, pixels);
    }

    public void flat(int l) throws NoSuchElementException, IllegalStateException {
        Layer old = known(l);
        refuse(old.kind == CURVED || old.kind == LIVE);
        Layer alone = old.again();
        alone.shown = true;
        alone.clipped = false;
        int[] seen = viewer.together(now, alone, null);
        Stand next = now.again();
        next.removeInside(l);
        next.exchange(old.flattened(seen));
        become(next);
    }

    public void merge(int l) throws NoSuchElementException, IllegalStateException {
        Layer old = known(l);
        Layer below = now.below(old);
        if (below == null || old.kind >= CURVED || below.kind >= CURVED) {
            throw new IllegalStateException("it can't be merged with the one below");
        }
        mergeInto(below, old);
    }

    private void mergeInto(Layer below, Layer above) {
        Layer lower = below.again();
        lower.shown = true;
        Layer upper = above.again();
        upper.shown = true;
        int[] seen = viewer.together(now, lower, upper);
        Stand next = now.again();
        next.removeInside(above.number);
        next.remove(above.number);
        next.removeInside(below.number);
        next.exchange(below.flattened(seen));
        become(next);
    }

    // ---- Changing pixels

    public int fill(int l, int how) throws IllegalArgumentException, NoSuchElementException {
        range(how, OVER, REPLACE);
        Layer old = knownPixels(l);
        int[] pixels = new int[CELLS];
        for (int y = 0; y < now.h; y++) {
            for (int x = 0; x < now.w; x++) {
                int i = y * now.w + x;
                pixels[i] = put(how, old.pixels[i], pen.colour, area.at(x + old.dx, y + old.dy));
            }
        }
        return repaint(old, pixels);
    }

    public int stroke(int l, int how) throws IllegalArgumentException, NoSuchElementException, IllegalStateException {
        range(how, 0, 3);
        Layer old = knownPixels(l);
        refuse(pen.points <= 0);
        int w = now.w;
        int h = now.h;
        pen.sweep(w, h);
        looks.apply(0, 1, old.pixels, filtered, w, h);
        int[] pixels = new int[CELLS];
        for (int y = 0; y < h; y++) {
            for (int x = 0; x < w; x++) {
                int i = y * w + x;
                int t = mul(mul(pen.cover[i], pen.opacity), area.at(x + old.dx, y + old.dy));
                int c = how == 2 ? old.own(x + pen.cx, y + pen.cy, w, h) : how == 3 ? filtered[i] : pen.colour;
                pixels[i] = put(how == 1 ? ERASE : how == 3 ? REPLACE : OVER, old.pixels[i], c, t);
            }
        }
        pen.points = 0;
        return repaint(old, pixels);
    }

    public int filter(int l, int kind, int n) throws IllegalArgumentException, NoSuchElementException {
        needFilter(kind, n);
        Layer old = knownPixels(l);
        looks.apply(kind, n, old.pixels, filtered, now.w, now.h);
        int[] pixels = new int[CELLS];
        for (int y = 0; y < now.h; y++) {
            for (int x = 0; x < now.w; x++) {
                int i = y * now.w + x;
                pixels[i] = mixColours(old.pixels[i], filtered[i], area.at(x + old.dx, y + old.dy));
            }
        }
        return repaint(old, pixels);
    }

    public int path(int l, int p, int rule) throws IllegalArgumentException, NoSuchElementException {
        range(p, 0, Paths.MANY - 1);
        range(rule, 0, 1);
        Layer old = knownPixels(l);
        int[] pixels = old.pixels.clone();
        paths.trace(p, 0, 0);
        fillTraced(old, pixels, rule);
        return repaint(old, pixels);
    }

    private void fillTraced(Layer old, int[] pixels, int rule) {
        paths.measure(rule, now.w, now.h);
        for (int y = 0; y < now.h; y++) {
            for (int x = 0; x < now.w; x++) {
                int i = y * now.w + x;
                int t = mul(paths.cover[i], area.at(x + old.dx, y + old.dy));
                pixels[i] = put(OVER, pixels[i], pen.colour, t);
            }
        }
    }

    public int text(int l, int x, int y) throws IllegalArgumentException, NoSuchElementException {
        int n = takeInput();
        range(x, -2000, 2000);
        range(y, -2000, 2000);
        Layer old = knownPixels(l);
        int[] pixels = old.pixels.clone();
        int at = x;
        for (int i = 0; i < n && i < 40; i++) {
            int b = input[i] & 255;
            int p = paths.glyphPath[b];
            if (p >= 0) {
                paths.trace(p, at, y);
                fillTraced(old, pixels, 0);
                at += paths.glyphAdvance[b];
            }
        }
        return repaint(old, pixels);
    }

    public void convert(int l, int p, int q)
            throws IllegalArgumentException, NoSuchElementException, IllegalStateException {
        range(p, 0, 3);
        range(q, 0, 3);
        Layer old = knownPixels(l);
        refuse(lab.determinant(q) == 0);
        int[] pixels = new int[CELLS];
        lab.translate(old.pixels, pixels, p, q, now.w * now.h);
        replacePixels(old, pixels);
    }

    public int few(int l, int n, boolean dither) throws IllegalArgumentException, NoSuchElementException {
        range(n, 2, Lab.BOXES);
        Layer old = knownPixels(l);
        int[] pixels = old.pixels.clone();
        int many = lab.boxes(pixels, now.w * now.h, n);
        lab.reduce(pixels, now.w, now.h, dither);
        replacePixels(old, pixels);
        return many;
    }

    public int raw() throws IndexOutOfBoundsException, UnsupportedOperationException {
        int n = takeInput();
        needNumber();
        int w = now.w;
        int h = now.h;
        if (n != 2 * w * h) {
            failInput(1, n);
        }
        int wrong = lab.takeFrame(input, w, h);
        if (wrong >= 0) {
            failInput(2, wrong);
        }
        int[] pixels = new int[CELLS];
        lab.unfold(pixels, w, h);
        return addPixels(pixels);
    }

    public int png() throws IndexOutOfBoundsException, UnsupportedOperationException {
        int n = takeInput();
        needNumber();
        if (!reader.read(input, n)) {
            failInput(reader.faultSort, reader.faultPlace);
        }
        int[] pixels = new int[CELLS];
        reader.paint(pixels, now.w, now.h);
        return addPixels(pixels);
    }

    // ---- SELECTION

    public int select(int shape, int way, int a, int b, int c, int d)
            throws IllegalArgumentException, NoSuchElementException {
        needShape(shape, way, a, b, c, d);
        switch (shape) {
            case 0: area.box(0, 0, SIDE, SIDE); break;
            case 1: area.box(a, b, c, d); break;
            case 2: area.ellipse(a, b, c, d); break;
            case 3: area.wand(viewer.seen(now), a, b, c); break;
            case 4: area.alike(viewer.seen(now), a, b, c); break;
            case 5: area.alphas(selectable(a)); break;
            default:
                paths.trace(a, 0, 0);
                paths.measure(b, now.w, now.h);
                area.covered(paths.cover);
                break;
        }
        area.join(way);
        return area.above();
    }

    private void needShape(int shape, int way, int a, int b, int c, int d) {
        boolean wand = shape == 3 || shape == 4;
        boolean boxed = shape == 1 || shape == 2;
        range(shape, 0, 6);
        range(way, 0, 3);
        range(a, wand || shape == 6 ? 0 : -100, wand ? now.w - 1 : shape == 6 ? Paths.MANY - 1 : 100);
        range(b, wand || shape == 6 ? 0 : -100, wand ? now.h - 1 : shape == 6 ? 1 : 100);
        range(c, wand || boxed ? 0 : -100, wand ? 255 : 100);
        range(d, boxed ? 0 : -100, 100);
    }

    private Layer selectable(int l) {
        Layer found = known(l);
        if (found.kind != PIXELS) {
            throw new NoSuchElementException("the LAYER has no pixels of its own");
        }
        return found;
    }

    public int reselect(int how, int n) throws IllegalArgumentException {
        range(how, 0, 3);
        range(n, how == 0 ? 0 : 1, how == 0 ? 0 : 8);
        switch (how) {
            case 0: area.turnOver(); break;
            case 1: area.widen(n, true); break;
            case 2: area.widen(n, false); break;
            default:
                area.soften(n);
                area.soften(n);
                break;
        }
        return area.above();
    }

    public int selected(int x, int y) throws NoSuchElementException {
        needPlace(x, y);
        return area.at(x, y);
    }

    // ---- Settings

    public void front(int colour) {
        pen.colour = colour;
    }

    public void brush(int size, int hard, int spacing, int flow, int opacity) throws IllegalArgumentException {
        range(size, 1, 64);
        range(hard, 0, 255);
        range(spacing, 2, 64);
        range(flow, 0, 255);
        range(opacity, 0, 255);
        pen.size = size;
        pen.hard = hard;
        pen.spacing = spacing;
        pen.flow = flow;
        pen.opacity = opacity;
    }

    public void source(int cx, int cy) throws IllegalArgumentException {
        range(cx, -100, 100);
        range(cy, -100, 100);
        pen.cx = cx;
        pen.cy = cy;
    }

    public int point(int x, int y, int pressure) throws IllegalArgumentException, IndexOutOfBoundsException {
        range(x, -200, 200);
        range(y, -200, 200);
        range(pressure, 0, 255);
        if (pen.points >= Brush.MOST) {
            throw new IndexOutOfBoundsException("no more POINTS");
        }
        pen.addPoint(x, y, pressure);
        return pen.points;
    }

    public int curve(int k, int c, int x, int y) throws IllegalArgumentException, IndexOutOfBoundsException {
        range(k, 0, 7);
        range(c, 0, 3);
        range(x, -1, 255);
        if (x >= 0) {
            range(y, 0, 255);
        }
        int many = x < 0 ? looks.clearCurve(k * 4 + c) : looks.bendCurve(k * 4 + c, x, y);
        if (many < 0) {
            throw new IndexOutOfBoundsException("no more points of a CURVE");
        }
        viewer.forgetAll();
        return many;
    }

    public void kernel(int i, int v) throws IllegalArgumentException {
        range(i, 0, 10);
        range(v, i == 9 ? 1 : i == 10 ? -255 : -100, i == 9 ? 1000 : i == 10 ? 255 : 100);
        if (i == 9) {
            looks.divisor = v;
        } else if (i == 10) {
            looks.offset = v;
        } else {
            looks.weights[i] = v;
        }
        viewer.forgetAll();
    }

    public void profile(int p, int i, int v) throws IllegalArgumentException {
        range(p, 0, 3);
        range(i, 0, 9);
        range(v, i == 9 ? 0 : -4096, i == 9 ? 2 : 4096);
        lab.profiles[p * 10 + i] = v;
    }

    public void develop(int what, int v) throws IllegalArgumentException {
        range(what, 0, 3);
        range(v, 0, what == 0 ? 4095 : 1024);
        lab.frame[what] = v;
    }

    public int step(int p, int kind, int x, int y)
            throws IllegalArgumentException, IllegalStateException, IndexOutOfBoundsException {
        range(p, 0, Paths.MANY - 1);
        range(kind, 0, 3);
        if (kind == 3) {
            paths.counts[p] = 0;
            return 0;
        }
        range(x, -2000, 2000);
        range(y, -2000, 2000);
        refuse(!paths.allows(p, kind));
        if (paths.counts[p] >= Paths.STEPS) {
            throw new IndexOutOfBoundsException("no more STEPS");
        }
        paths.addStep(p, kind, x, y);
        return paths.counts[p];
    }

    public void glyph(int b, int p, int advance) throws IllegalArgumentException {
        range(b, 0, 255);
        range(p, -1, Paths.MANY - 1);
        range(advance, 0, 800);
        paths.glyphPath[b] = p;
        paths.glyphAdvance[b] = advance;
    }

    // ---- What is told

    public int see(int x, int y) throws NoSuchElementException {
        needPlace(x, y);
        if (!viewer.keeps(x, y)) {
            viewer.keep(x, y, now.w, now.h, viewer.seen(now));
        }
        return viewer.keptAt(x, y, now.w);
    }

    public int zoomed(int z, int x, int y) throws IllegalArgumentException, NoSuchElementException {
        range(z, 1, 3);
        if (x < 0 || y < 0 || x > (now.w - 1) >> z || y > (now.h - 1) >> z) {
            throw new NoSuchElementException("no such pixel");
        }
        return viewer.zoomedOf(viewer.seen(now), z, x, y, now.w, now.h);
    }

    public int hash() {
        int[] picture = viewer.seen(now);
        int sum = 0;
        for (int i = 0; i < now.w * now.h; i++) {
            sum = 31 * sum + picture[i];
        }
        return sum;
    }

    public int pixel(int l, int x, int y) throws NoSuchElementException {
        Layer found = selectable(l);
        needPlace(x, y);
        return found.own(x, y, now.w, now.h);
    }

    public int masked(int l, int x, int y) throws NoSuchElementException {
        Layer found = known(l);
        needPlace(x, y);
        return found.mask.length == CELLS ? found.mask[y * now.w + x] : -1;
    }

    public int about(int l, int what) throws IllegalArgumentException, NoSuchElementException {
        range(what, 0, 15);
        Layer found = known(l);
        if (what >= 10) {
            return found.setting(what);
        }
        switch (what) {
            case 0: return found.kind;
            case 1: return found.parent;
            case 2: return now.placeOf(found);
            case 3: return found.opacity;
            case 4: return found.mode;
            case 5: return found.shown ? 1 : 0;
            case 6: return found.clipped ? 1 : 0;
            case 7: return found.dx;
            case 8: return found.dy;
            default: return now.among(l);
        }
    }

    public int made(int l) throws NoSuchElementException {
        int[] picture = l == -1 ? viewer.seen(now) : selectable(l).pixels;
        maker.write(picture, now.w, now.h);
        return maker.length;
    }

    public long octets(int i) throws IllegalArgumentException {
        range(i, -1, BYTES);
        return i < 0 ? maker.length : maker.eight(i);
    }

    public int count(int what) {
        switch (what) {
            case 0: return now.w;
            case 1: return now.h;
            case 2: return now.size;
            case 3: return pastCount;
            case 4: return undoneCount;
            case 5: return viewer.worked;
            case 6: return viewer.keptTiles();
            case 7: return pen.points;
            case 8: return inputLength;
            case 9: return now.reach();
            default: return -1;
        }
    }

    // ---- Arithmetic of samples and COLOURS

    private static int mul(int a, int b) {
        return (a * b + 127) / 255;
    }

    private static int mix(int a, int b, int t) {
        return (a * (255 - t) + b * t + 127) / 255;
    }

    private static int clip(int v) {
        return v < 0 ? 0 : v > 255 ? 255 : v;
    }

    private static int within(int v, int least, int greatest) {
        return v < least ? least : v > greatest ? greatest : v;
    }

    private static int root(int n) {
        int r = 0;
        for (int bit = 1 << 15; bit > 0; bit >>= 1) {
            long next = r + bit;
            if (next * next <= n) {
                r += bit;
            }
        }
        return r;
    }

    private static int pack(int a, int r, int g, int b) {
        return (a << 24) | (r << 16) | (g << 8) | b;
    }

    private static int red(int c) {
        return (c >> 16) & 255;
    }

    private static int green(int c) {
        return (c >> 8) & 255;
    }

    private static int blue(int c) {
        return c & 255;
    }

    private static int luma(int c) {
        return (77 * ((c >> 16) & 255) + 151 * ((c >> 8) & 255) + 28 * (c & 255)) >> 8;
    }

    private static int mixColours(int b, int c, int t) {
        return pack(mix(b >>> 24, c >>> 24, t), mix(red(b), red(c), t), mix(green(b), green(c), t),
            mix(blue(b), blue(c), t));
    }

    /** The mean of COLOURS by their A: its weight n, the sum a of A, and the sums of each sample times A. */
    private static int mean(int n, int a, int r, int g, int b) {
        if (a <= 0 || n <= 0) {
            return 0;
        }
        int half = a / 2;
        return (a + n / 2) / n << 24 | (r + half) / a << 16 | (g + half) / a << 8 | (b + half) / a;
    }

    /** COLOUR s, there by e, above COLOUR b by a mode. */
    private static int blend(int b, int s, int e, int mode) {
        int under = b >>> 24;
        int den = 255 * e + (255 - e) * under;
        if (den <= 0) {
            return 0;
        }
        int lift = luma(s) - luma(b);
        int all = (den + 127) / 255 << 24;
        for (int shift = 16; shift >= 0; shift -= 8) {
            int bv = (b >> shift) & 255;
            int sv = (s >> shift) & 255;
            int t = mix(sv, blended(bv, sv, lift, mode), under);
            all |= (255 * e * t + (255 - e) * under * bv + den / 2) / den << shift;
        }
        return all;
    }

    /** One sample by a mode; lift is how much brighter the upper COLOUR is. */
    private static int blended(int b, int s, int lift, int mode) {
        switch (mode) {
            case 1: return mul(b, s);
            case 2: return b + s - mul(b, s);
            case 3: return b < 128 ? mul(2 * b, s) : s + 2 * b - 255 - mul(s, 2 * b - 255);
            case 4: return Math.min(b, s);
            case 5: return Math.max(b, s);
            case 6: return b == 0 ? 0 : s >= 255 ? 255 : Math.min(255, 255 * b / (255 - s));
            case 7: return b == 255 ? 255 : s <= 0 ? 0 : 255 - Math.min(255, 255 * (255 - b) / s);
            case 8: return s < 128 ? mul(2 * s, b) : b + 2 * s - 255 - mul(b, 2 * s - 255);
            case 9: return Math.abs(b - s);
            case 10: return b + s - 2 * mul(b, s);
            case 11: return Math.min(255, b + s);
            case 12: return Math.max(0, b - s);
            case 13: return clip(mul(255 - b, mul(b, s)) + mul(b, b + s - mul(b, s)));
            case 14: return clip(b + lift);
            case 15: return clip(s - lift);
            default: return s;
        }
    }

    private static int put(int how, int b, int c, int t) {
        int e = mul(c >>> 24, t);
        if (how == OVER) {
            return blend(b, c, e, 0);
        }
        return how == ERASE ? mul(b >>> 24, 255 - e) << 24 | b & 0xFFFFFF : mixColours(b, c, t);
    }

    /** What a row's filter of a PNG foretells from the bytes left (a), above (b) and left above (c). */
    private static int foretold(int filter, int a, int b, int c) {
        switch (filter) {
            case 1: return a;
            case 2: return b;
            case 3: return (a + b) / 2;
            case 4:
                int p = a + b - c;
                int toA = Math.abs(p - a);
                int toB = Math.abs(p - b);
                int toC = Math.abs(p - c);
                return toA <= toB && toA <= toC ? a : toB <= toC ? b : c;
            default: return 0;
        }
    }

    private static int crc(int[] bytes, int from, int to) {
        int sum = -1;
        for (int i = Math.max(from, 0); i < to && i < bytes.length; i++) {
            sum ^= bytes[i] & 255;
            for (int k = 0; k < 8; k++) {
                sum = (sum & 1) != 0 ? (sum >>> 1) ^ 0xEDB88320 : sum >>> 1;
            }
        }
        return ~sum;
    }

    private static int adler(int[] bytes, int many) {
        int a = 1;
        int b = 0;
        for (int i = 0; i < many && i < bytes.length; i++) {
            a = (a + bytes[i]) % 65521;
            b = (b + a) % 65521;
        }
        return b * 65536 + a;
    }

    /** A LAYER. Once it stands in a Stand it is never changed: an EDIT puts a changed copy in its place. */
    private static final class Layer {
        final int number;
        int kind;
        int parent;
        int opacity = 255;
        int mode;
        boolean shown = true;
        boolean clipped;
        int dx;
        int dy;
        int p;
        int q;
        int x0;
        int y0;
        int x1;
        int y1;
        int[] pixels;
        int[] mask = NONE;

        Layer(int number, int kind, int parent) {
            this.number = number;
            this.kind = kind;
            this.parent = parent;
            this.p = kind == LIVE ? 8 : 0;
            this.pixels = kind == PIXELS ? new int[CELLS] : NONE;
        }

        /** A copy that shares its rows. */
        private Layer(Layer old) {
            number = old.number;
            kind = old.kind;
            parent = old.parent;
            opacity = old.opacity;
            mode = old.mode;
            shown = old.shown;
            clipped = old.clipped;
            dx = old.dx;
            dy = old.dy;
            p = old.p;
            q = old.q;
            x0 = old.x0;
            y0 = old.y0;
            x1 = old.x1;
            y1 = old.y1;
            pixels = old.pixels;
            mask = old.mask;
        }

        Layer again() {
            return new Layer(this);
        }

        /** It as PIXELS with all that was its own reckoned in. */
        Layer flattened(int[] seen) {
            Layer flat = new Layer(this);
            flat.kind = PIXELS;
            flat.opacity = 255;
            flat.mode = 0;
            flat.dx = 0;
            flat.dy = 0;
            flat.pixels = seen;
            flat.mask = NONE;
            return flat;
        }

        int own(int x, int y, int w, int h) {
            int i = y * w + x;
            return x < 0 || y < 0 || x >= w || y >= h || i >= pixels.length ? 0 : pixels[i];
        }

        /** The mean of the four pixels around a place in sixteenths. */
        int between(int bigX, int bigY, int w, int h) {
            int f = bigX & 15;
            int g = bigY & 15;
            int a = 0;
            int r = 0;
            int gr = 0;
            int b = 0;
            for (int k = 0; k < 4; k++) {
                int right = k & 1;
                int lower = k >> 1;
                int c = own((bigX >> 4) + right, (bigY >> 4) + lower, w, h);
                int weight = (right == 1 ? f : 16 - f) * (lower == 1 ? g : 16 - g) * (c >>> 24);
                a += weight;
                r += weight * red(c);
                gr += weight * green(c);
                b += weight * blue(c);
            }
            return mean(256, a, r, gr, b);
        }

        int maskAt(int i) {
            return i >= 0 && i < mask.length ? mask[i] : 255;
        }

        /** The COLOUR of a FILL or a RAMP. */
        int painted(int x, int y) {
            int n = (x1 - x0) * (x1 - x0) + (y1 - y0) * (y1 - y0);
            if (kind != RAMP || n <= 0) {
                return p;
            }
            int v = (x - x0) * (x1 - x0) + (y - y0) * (y1 - y0);
            return mixColours(p, q, clip(255 * v / n));
        }

        /** What about tells from 10 on: only KINDS that have it tell it. */
        int setting(int what) {
            if (kind < FILL || (what >= 12 && kind != RAMP)) {
                return 0;
            }
            switch (what) {
                case 10: return p;
                case 11: return q;
                case 12: return x0;
                case 13: return y0;
                case 14: return x1;
                default: return y1;
            }
        }
    }

    /** All LAYERS as they stand between two EDITS. The LAYERS of one PARENT stand in order as in their PARENT. */
    private static final class Stand {
        final int w;
        final int h;
        final Layer[] layers = new Layer[NUMBERS];
        final int[] order = new int[NUMBERS];
        int size;
        int next;

        Stand(int w, int h) {
            this.w = w;
            this.h = h;
        }

        Stand again() {
            Stand copy = new Stand(w, h);
            copy.size = size;
            copy.next = next;
            for (int i = 0; i < NUMBERS; i++) {
                copy.layers[i] = layers[i];
                copy.order[i] = order[i];
            }
            return copy;
        }

        Layer find(int l) {
            return l < 0 || l >= NUMBERS ? null : layers[l];
        }

        /** The LAYER at place i of order, if it has this PARENT. */
        Layer child(int i, int parent) {
            Layer found = i < 0 || i >= size || i >= NUMBERS ? null : find(order[i]);
            return found != null && found.parent == parent ? found : null;
        }

        boolean holds(int parent) {
            Layer found = find(parent);
            return parent == -1 || (found != null && found.kind == GROUP);
        }

        int among(int parent) {
            int many = 0;
            for (int i = 0; i < size; i++) {
                if (child(i, parent) != null) {
                    many++;
                }
            }
            return many;
        }

        int placeOf(Layer x) {
            int place = 0;
            for (int i = 0; i < size; i++) {
                Layer c = child(i, x.parent);
                if (c == x) {
                    break;
                }
                if (c != null) {
                    place++;
                }
            }
            return place;
        }

        Layer below(Layer x) {
            Layer lower = null;
            for (int i = 0; i < size; i++) {
                Layer c = child(i, x.parent);
                if (c == x) {
                    break;
                }
                if (c != null) {
                    lower = c;
                }
            }
            return lower;
        }

        boolean isIn(int l, int group) {
            Layer x = find(l);
            for (int k = 0; k <= NUMBERS && x != null; k++) {
                if (x.parent == group) {
                    return true;
                }
                x = find(x.parent);
            }
            return false;
        }

        void exchange(Layer changed) {
            if (changed.number >= 0 && changed.number < NUMBERS) {
                layers[changed.number] = changed;
            }
        }

        void insert(Layer x, int at) {
            if (size >= NUMBERS) {
                return;
            }
            int where = size;
            int passed = 0;
            for (int i = 0; i < size && where == size; i++) {
                if (child(i, x.parent) != null) {
                    if (passed == at) {
                        where = i;
                    }
                    passed++;
                }
            }
            for (int i = size; i > where && i > 0; i--) {
                order[i] = order[i - 1];
            }
            order[where] = x.number;
            size++;
            exchange(x);
        }

        /** Takes just this LAYER away. */
        void remove(int l) {
            int kept = 0;
            for (int i = 0; i < size && i < NUMBERS; i++) {
                if (order[i] != l) {
                    order[kept] = order[i];
                    kept++;
                }
            }
            size = kept;
            if (l >= 0 && l < NUMBERS) {
                layers[l] = null;
            }
        }

        void removeInside(int group) {
            boolean[] goes = new boolean[NUMBERS];
            for (int l = 0; l < NUMBERS; l++) {
                goes[l] = isIn(l, group);
            }
            for (int l = 0; l < NUMBERS; l++) {
                if (goes[l]) {
                    remove(l);
                }
            }
        }

        int reach() {
            int sum = 0;
            for (int i = 0; i < NUMBERS; i++) {
                if (layers[i] != null && layers[i].kind == LIVE) {
                    sum += Looks.reachOf(layers[i].p, layers[i].q);
                }
            }
            return sum;
        }
    }

    /** CURVES, KERNEL and the FILTERS of a picture. */
    private static final class Looks {
        private static final int POINTS = 8;
        /** The points of channel c of CURVE k stand from (4 k + c) 8 on, x rising. */
        private final int[] curveX = new int[32 * POINTS];
        private final int[] curveY = new int[32 * POINTS];
        private final int[] curveCount = new int[32];
        final int[] weights = new int[9];
        int divisor = 1;
        int offset;
        private final int[] nine = new int[9];
        /** The picture that is filtered, and its size. */
        private int[] from = NONE;
        private int w = 1;
        private int h = 1;

        Looks() {
            weights[4] = 1;
        }

        static int leastAmount(int kind) {
            return kind == 0 ? 1 : kind == 5 || kind == 7 ? 2 : 0;
        }

        static int greatestAmount(int kind) {
            switch (kind) {
                case 0: return 4;
                case 5: return 8;
                case 7: return 64;
                case 1: case 6: case 9: case 12: case 13: return 255;
                default: return 0;
            }
        }

        static int reachOf(int kind, int n) {
            switch (kind) {
                case 0: return n;
                case 5: return n - 1;
                case 1: case 2: case 3: case 4: case 10: return 1;
                default: return 0;
            }
        }

        int clearCurve(int channel) {
            curveCount[channel] = 0;
            return 0;
        }

        /** How many points the channel has then; -1 if there is no room for one more. */
        int bendCurve(int channel, int x, int y) {
            int first = channel * POINTS;
            int many = curveCount[channel];
            int at = 0;
            while (at < many && curveX[first + at] < x) {
                at++;
            }
            if (at < many && curveX[first + at] == x) {
                curveY[first + at] = y;
                return many;
            }
            if (many >= POINTS) {
                return -1;
            }
            for (int i = many; i > at; i--) {
                curveX[first + i] = curveX[first + i - 1];
                curveY[first + i] = curveY[first + i - 1];
            }
            curveX[first + at] = x;
            curveY[first + at] = y;
            curveCount[channel] = many + 1;
            return many + 1;
        }

        private int bent(int channel, int v) {
            int first = channel * POINTS;
            int many = curveCount[channel];
            if (many <= 0) {
                return v;
            }
            int at = 0;
            while (at < many && at < POINTS && curveX[first + at] <= v) {
                at++;
            }
            if (at == 0) {
                return curveY[first];
            }
            int x0 = curveX[first + at - 1];
            int y0 = curveY[first + at - 1];
            if (at >= many || curveX[first + at] <= x0) {
                return y0;
            }
            return y0 + (curveY[first + at] - y0) * (v - x0) / (curveX[first + at] - x0);
        }

        int byCurve(int k, int c) {
            int first = within(k, 0, 7) * 4;
            int r = bent(first + 3, bent(first, red(c)));
            int g = bent(first + 3, bent(first + 1, green(c)));
            int b = bent(first + 3, bent(first + 2, blue(c)));
            return pack(c >>> 24, r, g, b);
        }

        void apply(int kind, int n, int[] source, int[] to, int width, int height) {
            if (source.length < CELLS || to.length < CELLS) {
                return;
            }
            from = source;
            w = within(width, 1, SIDE);
            h = within(height, 1, SIDE);
            for (int y = 0; y < h; y++) {
                for (int x = 0; x < w; x++) {
                    int i = y * w + x;
                    switch (kind) {
                        case 0: to[i] = soft(x, y, n); break;
                        case 1: to[i] = sharp(from[i], soft(x, y, 1), n); break;
                        case 2: to[i] = middle(x, y); break;
                        case 3: to[i] = edges(x, y); break;
                        case 4: to[i] = raised(x, y); break;
                        case 5: to[i] = n > 0 ? near(x / n * n, y / n * n) : from[i]; break;
                        case 10: to[i] = ownKernel(x, y); break;
                        case 9: to[i] = lifted(from[i], grain(x, y, n)); break;
                        case 12: to[i] = hue(from[i], n); break;
                        default: to[i] = alone(kind, n, from[i]); break;
                    }
                }
            }
        }

        /** The nearest pixel there is. */
        private int near(int x, int y) {
            int nx = x < 0 ? 0 : x >= w ? w - 1 : x;
            int ny = y < 0 ? 0 : y >= h ? h - 1 : y;
            return from[ny * w + nx];
        }

        private int soft(int x, int y, int n) {
            int a = 0;
            int r = 0;
            int g = 0;
            int b = 0;
            for (int j = y - n; j <= y + n; j++) {
                for (int i = x - n; i <= x + n; i++) {
                    int c = near(i, j);
                    int there = c >>> 24;
                    a += there;
                    r += there * ((c >> 16) & 255);
                    g += there * ((c >> 8) & 255);
                    b += there * (c & 255);
                }
            }
            return mean((2 * n + 1) * (2 * n + 1), a, r, g, b);
        }

        private static int sharp(int c, int q, int n) {
            int all = c & 0xFF000000;
            for (int shift = 16; shift >= 0; shift -= 8) {
                int v = (c >> shift) & 255;
                all |= clip(v + ((v - ((q >> shift) & 255)) * n >> 6)) << shift;
            }
            return all;
        }

        private int middle(int x, int y) {
            int all = 0;
            for (int shift = 24; shift >= 0; shift -= 8) {
                for (int k = 0; k < 9; k++) {
                    int v = (near(x + k % 3 - 1, y + k / 3 - 1) >> shift) & 255;
                    int at = k;
                    while (at > 0 && nine[at - 1] > v) {
                        nine[at] = nine[at - 1];
                        at--;
                    }
                    nine[at] = v;
                }
                all |= nine[4] << shift;
            }
            return all;
        }

        private int edges(int x, int y) {
            for (int k = 0; k < 9; k++) {
                nine[k] = luma(near(x + k % 3 - 1, y + k / 3 - 1));
            }
            int g = nine[2] + 2 * nine[5] + nine[8] - nine[0] - 2 * nine[3] - nine[6];
            int k = nine[6] + 2 * nine[7] + nine[8] - nine[0] - 2 * nine[1] - nine[2];
            int v = Math.min(255, Math.abs(g) + Math.abs(k));
            return pack(near(x, y) >>> 24, v, v, v);
        }

        private int raised(int x, int y) {
            int lower = near(x + 1, y + 1);
            int upper = near(x - 1, y - 1);
            return pack(near(x, y) >>> 24, clip(128 + red(lower) - red(upper)), clip(128 + green(lower) - green(upper)),
                clip(128 + blue(lower) - blue(upper)));
        }

        private int ownKernel(int x, int y) {
            int all = near(x, y) & 0xFF000000;
            for (int shift = 16; shift >= 0; shift -= 8) {
                int sum = 0;
                for (int k = 0; k < 9; k++) {
                    sum += weights[k] * ((near(x + k % 3 - 1, y + k / 3 - 1) >> shift) & 255);
                }
                all |= clip((divisor > 0 ? sum / divisor : sum) + offset) << shift;
            }
            return all;
        }

        private static int grain(int x, int y, int n) {
            int half = Math.max(n, 0) >> 3;
            int mixed = (x * 374761393 + y * 668265263 + n) * 1274126177;
            mixed = (mixed ^ mixed >>> 13) * 1103515245;
            return (mixed >>> 24) % (2 * half + 1) - half;
        }

        private static int lifted(int c, int d) {
            return pack(c >>> 24, clip(red(c) + d), clip(green(c) + d), clip(blue(c) + d));
        }

        private static int hue(int c, int n) {
            int r = red(c);
            int g = green(c);
            int b = blue(c);
            int most = Math.max(r, Math.max(g, b));
            int least = Math.min(r, Math.min(g, b));
            int d = most - least;
            if (d <= 0) {
                return c;
            }
            int angle = most == r ? 256 * (g - b) / d : most == g ? 512 + 256 * (b - r) / d : 1024 + 256 * (r - g) / d;
            angle = Math.floorMod(angle + 6 * n, 1536);
            int up = least + d * (angle % 256) / 256;
            int down = most - d * (angle % 256) / 256;
            int a = c >>> 24;
            switch (angle / 256) {
                case 0: return pack(a, most, up, least);
                case 1: return pack(a, down, most, least);
                case 2: return pack(a, least, most, up);
                case 3: return pack(a, least, down, most);
                case 4: return pack(a, up, least, most);
                default: return pack(a, most, least, down);
            }
        }

        /** FILTERS that look at each sample alone, or at it and Y. */
        private static int alone(int kind, int n, int c) {
            int all = c & 0xFF000000;
            int grey = luma(c);
            for (int shift = 16; shift >= 0; shift -= 8) {
                int v = (c >> shift) & 255;
                switch (kind) {
                    case 6: v = grey >= n ? 255 : 0; break;
                    case 7: v = n > 1 ? ((v * (n - 1) + 127) / 255 * 255 + (n - 1) / 2) / (n - 1) : v; break;
                    case 8: v = 255 - v; break;
                    case 11: v = grey; break;
                    case 13: v = clip(grey + ((v - grey) * n >> 6)); break;
                    default: break;
                }
                all |= v << shift;
            }
            return all;
        }
    }

    /** What is seen: of each PARENT as deep as it stands, of the whole, and of the TILES kept. */
    private static final class Viewer {
        /** All thirty LAYERS may be GROUPS, each in the one before. */
        private static final int DEPTHS = NUMBERS + 1;
        private static final int TILE = 8;
        private static final int TILES = 3;
        private final Looks looks;
        private final int[][] views = new int[DEPTHS][CELLS];
        /** e of the latest LAYER that isn't clipped, for each depth. */
        private final int[][] bases = new int[DEPTHS][CELLS];
        private final int[] changed = new int[CELLS];
        private final int[] whole = new int[CELLS];
        private boolean fresh;
        private final int[] kept = new int[CELLS];
        private final boolean[] keptTile = new boolean[TILES * TILES];
        int worked;

        Viewer(Looks looks) {
            this.looks = looks;
        }

        void forgetAll() {
            fresh = false;
            Arrays.fill(kept, 0);
            for (int i = 0; i < keptTile.length; i++) {
                keptTile[i] = false;
            }
        }

        void forgetBox(int left, int top, int right, int bottom) {
            fresh = false;
            for (int i = 0; i < keptTile.length; i++) {
                int x = i % TILES * TILE;
                int y = i / TILES * TILE;
                if (left < x + TILE && right >= x && top < y + TILE && bottom >= y) {
                    keptTile[i] = false;
                }
            }
        }

        private static int tileOf(int x, int y) {
            return within(y / TILE, 0, TILES - 1) * TILES + within(x / TILE, 0, TILES - 1);
        }

        boolean keeps(int x, int y) {
            return keptTile[tileOf(x, y)];
        }

        void keep(int x, int y, int w, int h, int[] picture) {
            int left = x / TILE * TILE;
            int top = y / TILE * TILE;
            for (int j = Math.max(top, 0); j < top + TILE && j < h; j++) {
                for (int i = Math.max(left, 0); i < left + TILE && i < w; i++) {
                    int at = j * w + i;
                    if (at < CELLS && at < picture.length) {
                        kept[at] = picture[at];
                    }
                }
            }
            keptTile[tileOf(x, y)] = true;
            worked++;
        }

        int keptAt(int x, int y, int w) {
            return kept[within(y * w + x, 0, CELLS - 1)];
        }

        int keptTiles() {
            int many = 0;
            for (int i = 0; i < keptTile.length; i++) {
                many += keptTile[i] ? 1 : 0;
            }
            return many;
        }

        /** All that is seen of the DOCUMENT; the row is this object's own. */
        int[] seen(Stand s) {
            if (!fresh) {
                viewOf(s, -1, 0);
                System.arraycopy(views[0], 0, whole, 0, CELLS);
                fresh = true;
            }
            return whole;
        }

        /** What is seen of a PARENT with just one LAYER or two, in a new row. */
        int[] together(Stand s, Layer lower, Layer upper) {
            Arrays.fill(views[0], 0);
            Arrays.fill(bases[0], 0);
            lay(s, lower, 0);
            if (upper != null) {
                lay(s, upper, 0);
            }
            return views[0].clone();
        }

        private void viewOf(Stand s, int parent, int depth) {
            if (depth < 0 || depth >= DEPTHS) {
                return;
            }
            Arrays.fill(views[depth], 0);
            Arrays.fill(bases[depth], 0);
            for (int i = 0; i < s.size; i++) {
                Layer l = s.child(i, parent);
                if (l != null) {
                    lay(s, l, depth);
                }
            }
        }

        private void lay(Stand s, Layer l, int depth) {
            boolean adjusts = l.kind == CURVED || l.kind == LIVE;
            if (!l.clipped && (adjusts || !l.shown)) {
                Arrays.fill(bases[depth], 0);
            }
            if (l.shown && adjusts) {
                adjust(s, l, depth);
            }
            if (l.shown && !adjusts) {
                cover(s, l, depth);
            }
        }

        private void adjust(Stand s, Layer l, int depth) {
            int[] view = views[depth];
            int cells = s.w * s.h;
            if (l.kind == LIVE) {
                looks.apply(l.p, l.q, view, changed, s.w, s.h);
            } else {
                for (int i = 0; i < cells; i++) {
                    changed[i] = looks.byCurve(l.p, view[i]);
                }
            }
            for (int i = 0; i < cells; i++) {
                int u = mul(mul(l.opacity, l.maskAt(i)), l.clipped ? bases[depth][i] : 255);
                view[i] = mixColours(view[i], changed[i], u);
            }
        }

        private void cover(Stand s, Layer l, int depth) {
            int inside = depth + 1 < DEPTHS ? depth + 1 : depth;
            if (l.kind == GROUP) {
                viewOf(s, l.number, depth + 1);
            }
            for (int y = 0; y < s.h; y++) {
                for (int x = 0; x < s.w; x++) {
                    int i = y * s.w + x;
                    int c = l.kind == PIXELS ? l.own(x - l.dx, y - l.dy, s.w, s.h)
                        : l.kind == GROUP ? views[inside][i] : l.painted(x, y);
                    int e = mul(mul(c >>> 24, l.opacity), l.maskAt(i));
                    if (l.clipped) {
                        e = mul(e, bases[depth][i]);
                    } else {
                        bases[depth][i] = e;
                    }
                    views[depth][i] = blend(views[depth][i], c, e, l.mode);
                }
            }
        }

        int zoomedOf(int[] picture, int z, int x, int y, int w, int h) {
            int n = 0;
            int a = 0;
            int r = 0;
            int g = 0;
            int b = 0;
            for (int j = y << z; j < (y + 1) << z && j < h; j++) {
                for (int i = x << z; i < (x + 1) << z && i < w; i++) {
                    int c = picture[within(j * w + i, 0, CELLS - 1)];
                    n++;
                    a += c >>> 24;
                    r += (c >>> 24) * red(c);
                    g += (c >>> 24) * green(c);
                    b += (c >>> 24) * blue(c);
                }
            }
            return mean(n, a, r, g, b);
        }
    }

    /** The SELECTION, and the shape that comes to it. */
    private static final class Area {
        private int w = 8;
        private int h = 8;
        final int[] values = new int[CELLS];
        private final int[] shape = new int[CELLS];
        private final int[] spare = new int[CELLS];

        Area() {
            Arrays.fill(values, 255);
        }

        void restart(int width, int height) {
            w = within(width, 1, SIDE);
            h = within(height, 1, SIDE);
            Arrays.fill(values, 255);
        }

        int at(int x, int y) {
            return x < 0 || y < 0 || x >= w || y >= h ? 0 : values[y * w + x];
        }

        int above() {
            int many = 0;
            for (int i = 0; i < w * h; i++) {
                many += values[i] > 0 ? 1 : 0;
            }
            return many;
        }

        void join(int way) {
            for (int i = 0; i < w * h; i++) {
                int v = shape[i];
                int old = values[i];
                values[i] = way == 0 ? v : way == 1 ? Math.max(old, v) : way == 2 ? Math.max(0, old - v) : Math.min(old, v);
            }
        }

        void box(int a, int b, int c, int d) {
            for (int y = 0; y < h; y++) {
                for (int x = 0; x < w; x++) {
                    shape[y * w + x] = x >= a && x < a + c && y >= b && y < b + d ? 255 : 0;
                }
            }
        }

        void ellipse(int a, int b, int c, int d) {
            for (int y = 0; y < h; y++) {
                for (int x = 0; x < w; x++) {
                    int many = 0;
                    for (int k = 0; k < 16; k++) {
                        long u = 8 * x + 2 * (k & 3) + 1 - 8 * a - 4 * c;
                        long v = 8 * y + 2 * (k >> 2) + 1 - 8 * b - 4 * d;
                        long wide = 16L * c * c;
                        long high = 16L * d * d;
                        many += c > 0 && d > 0 && u * u * high + v * v * wide <= wide * high ? 1 : 0;
                    }
                    shape[y * w + x] = (255 * many + 8) / 16;
                }
            }
        }

        private static boolean like(int c, int d, int most) {
            for (int shift = 24; shift >= 0; shift -= 8) {
                if (Math.abs(((c >> shift) & 255) - ((d >> shift) & 255)) > most) {
                    return false;
                }
            }
            return true;
        }

        void alike(int[] picture, int a, int b, int most) {
            int wanted = picture[within(b * w + a, 0, CELLS - 1)];
            for (int i = 0; i < w * h; i++) {
                shape[i] = like(picture[i], wanted, most) ? 255 : 0;
            }
        }

        /** Goes on from pixel to pixel; spare holds those come to, each once. */
        void wand(int[] picture, int a, int b, int most) {
            int start = within(b * w + a, 0, CELLS - 1);
            int wanted = picture[start];
            Arrays.fill(shape, 0);
            shape[start] = 255;
            spare[0] = start;
            int known = 1;
            for (int done = 0; done < known && done < CELLS; done++) {
                int x = spare[done] % w;
                int y = spare[done] / w;
                for (int k = 0; k < 4; k++) {
                    int nx = x + (k == 0 ? -1 : k == 1 ? 1 : 0);
                    int ny = y + (k == 2 ? -1 : k == 3 ? 1 : 0);
                    int i = ny * w + nx;
                    if (nx >= 0 && ny >= 0 && nx < w && ny < h && shape[i] == 0 && known < CELLS
                            && like(picture[i], wanted, most)) {
                        shape[i] = 255;
                        spare[known] = i;
                        known++;
                    }
                }
            }
        }

        void alphas(Layer l) {
            for (int y = 0; y < h; y++) {
                for (int x = 0; x < w; x++) {
                    shape[y * w + x] = l.own(x - l.dx, y - l.dy, w, h) >>> 24;
                }
            }
        }

        void covered(int[] cover) {
            for (int i = 0; i < w * h && i < cover.length; i++) {
                shape[i] = cover[i];
            }
        }

        void turnOver() {
            for (int i = 0; i < w * h; i++) {
                values[i] = 255 - values[i];
            }
        }

        /** Grown (the greatest of places there are) or shrunk (the least, 0 outside). */
        void widen(int n, boolean grown) {
            System.arraycopy(values, 0, spare, 0, CELLS);
            for (int y = 0; y < h; y++) {
                for (int x = 0; x < w; x++) {
                    int found = spare[y * w + x];
                    for (int j = y - n; j <= y + n; j++) {
                        for (int i = x - n; i <= x + n; i++) {
                            int v = i < 0 || j < 0 || i >= w || j >= h ? 0 : spare[j * w + i];
                            found = grown ? Math.max(found, v) : Math.min(found, v);
                        }
                    }
                    values[y * w + x] = found;
                }
            }
        }

        void soften(int n) {
            int m = (2 * n + 1) * (2 * n + 1);
            System.arraycopy(values, 0, spare, 0, CELLS);
            for (int y = 0; y < h; y++) {
                for (int x = 0; x < w; x++) {
                    int sum = 0;
                    for (int j = y - n; j <= y + n; j++) {
                        for (int i = x - n; i <= x + n; i++) {
                            sum += spare[within(j, 0, h - 1) * w + within(i, 0, w - 1)];
                        }
                    }
                    values[y * w + x] = m > 0 ? (sum + m / 2) / m : sum;
                }
            }
        }
    }

    /** The BRUSH, its POINTS, FRONT, and how much a stroke covers each pixel. */
    private static final class Brush {
        static final int MOST = 20;
        int colour = 0xFF000000;
        int size = 8;
        int hard = 255;
        int spacing = 4;
        int flow = 255;
        int opacity = 255;
        int cx;
        int cy;
        int points;
        private final int[] xs = new int[MOST];
        private final int[] ys = new int[MOST];
        private final int[] pressures = new int[MOST];
        final int[] cover = new int[CELLS];
        private int w;
        private int h;

        void addPoint(int x, int y, int pressure) {
            if (points >= 0 && points < MOST) {
                xs[points] = x;
                ys[points] = y;
                pressures[points] = pressure;
                points++;
            }
        }

        void sweep(int width, int height) {
            w = within(width, 1, SIDE);
            h = within(height, 1, SIDE);
            Arrays.fill(cover, 0);
            dab(xs[0], ys[0], pressures[0]);
            int rest = 0;
            for (int i = 1; i < points && i < MOST; i++) {
                rest = along(i, rest);
            }
        }

        /** The DABS of the line to POINT i (above 0): the rest behind it. */
        private int along(int i, int rest) {
            int x = xs[i - 1];
            int y = ys[i - 1];
            int p = pressures[i - 1];
            int dx = xs[i] - x;
            int dy = ys[i] - y;
            int length = root(dx * dx + dy * dy);
            int left = rest + length;
            int gap = Math.max(spacing, 1);
            for (int d = gap - rest; d <= length && length > 0; d += gap) {
                dab(x + dx * d / length, y + dy * d / length, p + (pressures[i] - p) * d / length);
                left = length - d;
            }
            return left;
        }

        private void dab(int bigX, int bigY, int pressure) {
            int edge = 4 * size;
            int core = edge * hard / 255;
            int strength = mul(pressure, flow);
            int right = Math.min(w - 1, (bigX + size) / 4 + 1);
            int bottom = Math.min(h - 1, (bigY + size) / 4 + 1);
            for (int y = Math.max(0, (bigY - size) / 4 - 2); y <= bottom; y++) {
                for (int x = Math.max(0, (bigX - size) / 4 - 2); x <= right; x++) {
                    int ax = 4 * x + 2 - bigX;
                    int ay = 4 * y + 2 - bigY;
                    int far = root(16 * (ax * ax + ay * ay));
                    if (far <= edge) {
                        int v = far <= core || edge <= core ? 255 : 255 * (edge - far) / (edge - core);
                        int i = y * w + x;
                        cover[i] += mul(255 - cover[i], mul(v, strength));
                    }
                }
            }
        }
    }

    /** PATHS and GLYPHS, the lines of the PATH traced last, and how much its inside covers each pixel. */
    private static final class Paths {
        static final int MANY = 8;
        static final int STEPS = 40;
        private static final int MOVE = 0;
        private static final int CONTROL = 2;
        /** No PATH has more: forty STEPS, of which each two make eight lines, and a line that closes each figure. */
        private static final int LINES = 400;
        final int[] counts = new int[MANY];
        private final int[] kinds = new int[MANY * STEPS];
        private final int[] xs = new int[MANY * STEPS];
        private final int[] ys = new int[MANY * STEPS];
        final int[] glyphPath = new int[256];
        final int[] glyphAdvance = new int[256];
        private final int[] fromX = new int[LINES];
        private final int[] fromY = new int[LINES];
        private final int[] toX = new int[LINES];
        private final int[] toY = new int[LINES];
        private int lines;
        /** Where the figure that is being traced has come to. */
        private int penX;
        private int penY;
        private final int[] turns = new int[4 * SIDE];
        final int[] cover = new int[CELLS];

        Paths() {
            Arrays.fill(glyphPath, -1);
        }

        boolean allows(int p, int kind) {
            int many = counts[p];
            boolean behindControl = many > 0 && many <= STEPS && kinds[p * STEPS + many - 1] == CONTROL;
            if (kind == CONTROL) {
                return many > 0 && !behindControl && many != STEPS - 1;
            }
            return kind != MOVE || !behindControl;
        }

        void addStep(int p, int kind, int x, int y) {
            int at = p * STEPS + counts[p];
            if (counts[p] < STEPS && at < kinds.length) {
                kinds[at] = kind;
                xs[at] = x;
                ys[at] = y;
                counts[p]++;
            }
        }

        private void lineTo(int x, int y) {
            if (lines < LINES) {
                fromX[lines] = penX;
                fromY[lines] = penY;
                toX[lines] = x;
                toY[lines] = y;
                lines++;
            }
            penX = x;
            penY = y;
        }

        private void curveTo(int qx, int qy, int ex, int ey) {
            int px = penX;
            int py = penY;
            for (int j = 1; j <= 8; j++) {
                int k = 8 - j;
                lineTo((px * k * k + 2 * qx * j * k + ex * j * j) >> 6, (py * k * k + 2 * qy * j * k + ey * j * j) >> 6);
            }
        }

        /** Makes the lines of PATH p shifted by x, y. */
        void trace(int p, int x, int y) {
            lines = 0;
            int first = within(p, 0, MANY - 1) * STEPS;
            int many = Math.min(counts[within(p, 0, MANY - 1)], STEPS);
            int beginX = 0;
            int beginY = 0;
            for (int i = 0; i < many; i++) {
                int sx = xs[first + i] + x;
                int sy = ys[first + i] + y;
                int kind = kinds[first + i];
                if (i == 0 || kind == MOVE) {
                    if (i > 0) {
                        lineTo(beginX, beginY);
                    }
                    beginX = sx;
                    beginY = sy;
                    penX = sx;
                    penY = sy;
                } else if (kind != CONTROL) {
                    lineTo(sx, sy);
                } else if (i + 1 < many) {
                    curveTo(sx, sy, xs[first + i + 1] + x, ys[first + i + 1] + y);
                    i++;
                }
            }
            if (many > 0) {
                lineTo(beginX, beginY);
            }
        }

        /** Counts for each pixel which of its sixteen points are in what was traced. */
        void measure(int rule, int w, int h) {
            Arrays.fill(cover, 0);
            for (int row = 0; row < 4 * h && row < 4 * SIDE; row++) {
                countTurns(4 * row + 2, 4 * w);
                for (int i = 0; i < 4 * w && i < turns.length; i++) {
                    boolean in = rule == 0 ? turns[i] != 0 : (turns[i] & 1) != 0;
                    cover[(row >> 2) * w + (i >> 2)] += in ? 1 : 0;
                }
            }
            for (int i = 0; i < CELLS; i++) {
                cover[i] = (255 * cover[i] + 8) / 16;
            }
        }

        private void countTurns(int y, int columns) {
            Arrays.fill(turns, 0);
            for (int k = 0; k < lines && k < LINES; k++) {
                int x0 = fromX[k];
                int y0 = fromY[k];
                int y1 = toY[k];
                if ((y0 <= y) != (y1 <= y)) {
                    boolean down = y1 > y0;
                    long there = (long) (y - y0) * (toX[k] - x0);
                    for (int i = 0; i < columns && i < turns.length; i++) {
                        long here = (long) (4 * i + 2 - x0) * (y1 - y0);
                        if (down ? here >= there : here <= there) {
                            // further right no crossing of this line is right of the point any more
                            break;
                        }
                        turns[i] += down ? 1 : -1;
                    }
                }
            }
        }
    }

    /** PROFILES, FEW colours and RAW frames. */
    private static final class Lab {
        static final int BOXES = 16;
        /** Ten for each PROFILE: nine numbers and the sort. */
        final int[] profiles = new int[40];
        /** Black and the gains of R, G, B. */
        final int[] frame = {0, 64, 64, 64};
        private final int[] levels = new int[256];
        private final long[] inverse = new long[9];
        /** R, G, B of pixels, those of each BOX in one piece. */
        private final int[] shades = new int[CELLS];
        private final int[] starts = new int[BOXES];
        private final int[] sizes = new int[BOXES];
        private final int[] colours = new int[BOXES];
        private int boxes;
        private int widest;
        private int widestShift;
        private final int[] errors = new int[3 * CELLS];
        private final int[] light = new int[CELLS];

        Lab() {
            for (int p = 0; p < 4; p++) {
                profiles[p * 10] = 1024;
                profiles[p * 10 + 4] = 1024;
                profiles[p * 10 + 8] = 1024;
            }
        }

        // PROFILES

        private static int level(int sort, int c) {
            int straight = 4095 * c / 255;
            int squares = 4095 * c * c / 65025;
            return sort == 0 ? straight : sort == 1 ? squares : (straight + 3 * squares) / 4;
        }

        private long cofactor(int p, int row, int column) {
            int r1 = p * 10 + (row + 1) % 3 * 3;
            int r2 = p * 10 + (row + 2) % 3 * 3;
            int c1 = (column + 1) % 3;
            int c2 = (column + 2) % 3;
            return (long) profiles[r1 + c1] * profiles[r2 + c2] - (long) profiles[r1 + c2] * profiles[r2 + c1];
        }

        long determinant(int p) {
            long sum = 0;
            for (int c = 0; c < 3; c++) {
                sum += profiles[p * 10 + c] * cofactor(p, 0, c);
            }
            return sum;
        }

        void translate(int[] from, int[] to, int p, int q, int many) {
            long d = determinant(q);
            if (d == 0) {
                return;
            }
            for (int k = 0; k < 9; k++) {
                inverse[k] = cofactor(q, k % 3, k / 3);
            }
            for (int c = 0; c < 256; c++) {
                levels[c] = level(profiles[q * 10 + 9], c);
            }
            int sort = profiles[p * 10 + 9];
            for (int i = 0; i < many && i < from.length && i < to.length; i++) {
                int r = level(sort, red(from[i]));
                int g = level(sort, green(from[i]));
                int b = level(sort, blue(from[i]));
                long x = byRow(p, 0, r, g, b);
                long y = byRow(p, 3, r, g, b);
                long z = byRow(p, 6, r, g, b);
                int all = from[i] & 0xFF000000;
                for (int k = 0; k < 3; k++) {
                    long v = (x * inverse[3 * k] + y * inverse[3 * k + 1] + z * inverse[3 * k + 2]) * 1024 / d;
                    all |= nearestLevel((int) Math.max(0, Math.min(4095, v))) << 16 - 8 * k;
                }
                to[i] = all;
            }
        }

        private int byRow(int p, int row, int r, int g, int b) {
            int at = p * 10 + row;
            return (profiles[at] * r + profiles[at + 1] * g + profiles[at + 2] * b) >> 10;
        }

        private int nearestLevel(int v) {
            int best = 0;
            for (int c = 1; c < 256; c++) {
                if (Math.abs(levels[c] - v) < Math.abs(levels[best] - v)) {
                    best = c;
                }
            }
            return best;
        }

        // FEW

        /** Finds at most n colours for the pixels that are there: how many they are. */
        int boxes(int[] pixels, int many, int n) {
            int found = 0;
            for (int i = 0; i < many && i < pixels.length && i < CELLS; i++) {
                if (pixels[i] >>> 24 != 0) {
                    shades[found] = pixels[i] & 0xFFFFFF;
                    found++;
                }
            }
            boxes = found > 0 ? 1 : 0;
            starts[0] = 0;
            sizes[0] = found;
            for (int k = 1; k < n && k < BOXES && findWidest(); k++) {
                cut(widest, widestShift);
            }
            for (int b = 0; b < boxes; b++) {
                colours[b] = pack(0, meanOf(b, 16), meanOf(b, 8), meanOf(b, 0));
            }
            return boxes;
        }

        private boolean findWidest() {
            int longest = 0;
            for (int b = 0; b < boxes && b < BOXES; b++) {
                for (int shift = 16; shift >= 0; shift -= 8) {
                    int least = 255;
                    int most = 0;
                    for (int i = starts[b]; i < starts[b] + sizes[b] && i < CELLS; i++) {
                        int v = (shades[i] >> shift) & 255;
                        least = Math.min(least, v);
                        most = Math.max(most, v);
                    }
                    if (most - least > longest) {
                        longest = most - least;
                        widest = b;
                        widestShift = shift;
                    }
                }
            }
            return longest > 0;
        }

        private int channelAt(int i, int shift) {
            return i < 0 || i >= CELLS ? -1 : (shades[i] >> shift) & 255;
        }

        private void cut(int b, int shift) {
            int first = starts[b];
            int behind = first + sizes[b];
            sortShades(first, behind, shift);
            int at = first + sizes[b] / 2;
            while (at < behind && channelAt(at, shift) == channelAt(at - 1, shift)) {
                at++;
            }
            if (at >= behind) {
                at = behind - 1;
                while (at > first && channelAt(at - 1, shift) == channelAt(behind - 1, shift)) {
                    at--;
                }
            }
            starts[boxes] = at;
            sizes[boxes] = behind - at;
            sizes[b] = at - first;
            boxes++;
        }

        private void sortShades(int first, int behind, int shift) {
            for (int i = first + 1; i < behind && i < CELLS; i++) {
                int c = shades[i];
                int v = (c >> shift) & 255;
                int at = i;
                while (at > first && (channelAt(at - 1, shift) > v
                        || (channelAt(at - 1, shift) == v && shades[at - 1] > c))) {
                    shades[at] = shades[at - 1];
                    at--;
                }
                shades[at] = c;
            }
        }

        private int meanOf(int b, int shift) {
            int k = sizes[b];
            int sum = 0;
            for (int i = starts[b]; i < starts[b] + k && i < CELLS; i++) {
                sum += (shades[i] >> shift) & 255;
            }
            return k > 0 ? (sum + k / 2) / k : 0;
        }

        /** Gives each pixel that is there the nearest of the colours found. */
        void reduce(int[] pixels, int w, int h, boolean dither) {
            Arrays.fill(errors, 0);
            for (int y = 0; y < h; y++) {
                for (int x = 0; x < w; x++) {
                    int i = y * w + x;
                    if (i < CELLS && i < pixels.length && pixels[i] >>> 24 != 0) {
                        int r = clip(red(pixels[i]) + errors[3 * i]);
                        int g = clip(green(pixels[i]) + errors[3 * i + 1]);
                        int b = clip(blue(pixels[i]) + errors[3 * i + 2]);
                        int c = nearestColour(r, g, b);
                        if (dither) {
                            spread(x, y, w, h, 0, r - red(c));
                            spread(x, y, w, h, 1, g - green(c));
                            spread(x, y, w, h, 2, b - blue(c));
                        }
                        pixels[i] = pixels[i] & 0xFF000000 | c;
                    }
                }
            }
        }

        private int nearestColour(int r, int g, int b) {
            int best = 0;
            int least = FAR;
            for (int k = 0; k < boxes && k < BOXES; k++) {
                int dr = r - red(colours[k]);
                int dg = g - green(colours[k]);
                int db = b - blue(colours[k]);
                if (dr * dr + dg * dg + db * db < least) {
                    least = dr * dr + dg * dg + db * db;
                    best = k;
                }
            }
            return colours[best];
        }

        private void spread(int x, int y, int w, int h, int channel, int e) {
            int i = 3 * (y * w + x) + channel;
            if (x + 1 < w) {
                errors[i + 3] += 7 * e / 16;
            }
            if (y + 1 < h) {
                int below = i + 3 * w;
                if (x > 0) {
                    errors[below - 3] += 3 * e / 16;
                }
                errors[below] += 5 * e / 16;
                if (x + 1 < w) {
                    errors[below + 3] += e / 16;
                }
            }
        }

        // RAW

        private static int filterOf(int x, int y) {
            return (x & 1) == 0 && (y & 1) == 0 ? 0 : (x & 1) == 1 && (y & 1) == 1 ? 2 : 1;
        }

        /** Takes the numbers of a frame: where the first wrong one stands, or -1. */
        int takeFrame(int[] bytes, int w, int h) {
            for (int i = 0; i < w * h && i < CELLS && 2 * i + 1 < bytes.length; i++) {
                int v = bytes[2 * i] * 256 + bytes[2 * i + 1];
                if (v > 4095) {
                    return 2 * i;
                }
                light[i] = within((v - frame[0]) * frame[1 + filterOf(i % w, i / w)] / 64, 0, 4095);
            }
            return -1;
        }

        void unfold(int[] pixels, int w, int h) {
            for (int y = 0; y < h; y++) {
                for (int x = 0; x < w; x++) {
                    int i = y * w + x;
                    if (i < pixels.length) {
                        pixels[i] = pack(255, lightAt(x, y, w, h, 0) >> 4, lightAt(x, y, w, h, 1) >> 4,
                            lightAt(x, y, w, h, 2) >> 4);
                    }
                }
            }
        }

        private int lightAt(int x, int y, int w, int h, int channel) {
            if (filterOf(x, y) == channel) {
                return light[y * w + x];
            }
            int k = 0;
            int sum = 0;
            for (int j = Math.max(0, y - 1); j <= y + 1 && j < h; j++) {
                for (int i = Math.max(0, x - 1); i <= x + 1 && i < w; i++) {
                    if (filterOf(i, j) == channel) {
                        k++;
                        sum += light[j * w + i];
                    }
                }
            }
            return k > 0 ? (sum + k / 2) / k : 0;
        }
    }

    /** Makes PNG files: OUT is its row. */
    private static final class PngMaker {
        /** The greatest file has some 2,700 bytes: no code of a byte is longer than nine bits. */
        private static final int MOST = 3000;
        private static final int LONGEST = 258;
        private final int[] out = new int[MOST];
        int length;
        private final int[] rows = new int[ROW_BYTES];
        private int rowLength;
        private int bits;
        private int bitCount;

        void write(int[] pixels, int w, int h) {
            length = 0;
            for (int i = 0; i < SIGNATURE.length; i++) {
                octet(SIGNATURE[i]);
            }
            int start = beginChunk(IHDR);
            four(w);
            four(h);
            octet(8);
            octet(6);
            octet(0);
            octet(0);
            octet(0);
            endChunk(start);
            start = beginChunk(IDAT);
            octet(120);
            octet(1);
            filterRows(pixels, w, h);
            deflate();
            four(adler(rows, rowLength));
            endChunk(start);
            endChunk(beginChunk(IEND));
        }

        long eight(int i) {
            long all = 0;
            for (int k = i; k < i + 8; k++) {
                all = all << 8 | (k >= 0 && k < length && k < MOST ? out[k] : 0);
            }
            return all;
        }

        private void octet(int v) {
            if (length < MOST) {
                out[length] = v & 255;
                length++;
            }
        }

        private void four(int v) {
            octet(v >>> 24);
            octet(v >>> 16);
            octet(v >>> 8);
            octet(v);
        }

        private int beginChunk(int name) {
            int start = length;
            four(0);
            four(name);
            return start;
        }

        private void endChunk(int start) {
            int behind = length;
            int size = behind - start - 8;
            length = start;
            four(size);
            length = behind;
            four(crc(out, start + 4, behind));
        }

        private static int byteAt(int[] pixels, int w, int y, int k) {
            int i = y * w + (k >> 2);
            if (y < 0 || k < 0 || i >= pixels.length) {
                return 0;
            }
            int c = pixels[i];
            return (k & 3) == 3 ? c >>> 24 : (c >> 16 - 8 * (k & 3)) & 255;
        }

        private static int lessForetold(int filter, int[] pixels, int w, int y, int k) {
            return (byteAt(pixels, w, y, k) - foretold(filter, byteAt(pixels, w, y, k - 4), byteAt(pixels, w, y - 1, k),
                y > 0 ? byteAt(pixels, w, y - 1, k - 4) : 0)) & 255;
        }

        private void filterRows(int[] pixels, int w, int h) {
            rowLength = 0;
            for (int y = 0; y < h; y++) {
                int best = 0;
                int least = FAR;
                for (int f = 0; f < 5; f++) {
                    int sum = 0;
                    for (int k = 0; k < 4 * w; k++) {
                        int v = lessForetold(f, pixels, w, y, k);
                        sum += v < 128 ? v : 256 - v;
                    }
                    if (sum < least) {
                        least = sum;
                        best = f;
                    }
                }
                rowByte(best);
                for (int k = 0; k < 4 * w; k++) {
                    rowByte(lessForetold(best, pixels, w, y, k));
                }
            }
        }

        private void rowByte(int v) {
            if (rowLength < ROW_BYTES) {
                rows[rowLength] = v;
                rowLength++;
            }
        }

        private void deflate() {
            bits = 0;
            bitCount = 0;
            addBits(1, 1);
            addBits(1, 2);
            int at = 0;
            for (int guard = 0; guard < ROW_BYTES && at < rowLength; guard++) {
                int distance = nearestLongest(at);
                int match = distance > 0 ? matchAt(at, distance) : 0;
                if (match >= 3) {
                    addMatch(match, distance);
                    at += match;
                } else {
                    addSymbol(rows[at]);
                    at++;
                }
            }
            addSymbol(256);
            if (bitCount > 0) {
                addBits(0, 8 - bitCount);
            }
        }

        private int matchAt(int at, int distance) {
            int n = 0;
            while (n < LONGEST && at + n < rowLength && at + n < ROW_BYTES && distance <= at
                    && rows[at + n] == rows[at + n - distance]) {
                n++;
            }
            return n;
        }

        /** The distance of the longest match, the nearest of these; 0 without any. */
        private int nearestLongest(int at) {
            int best = 0;
            int longest = 0;
            for (int distance = 1; distance <= at && longest < LONGEST; distance++) {
                int n = matchAt(at, distance);
                if (n > longest) {
                    longest = n;
                    best = distance;
                }
            }
            return best;
        }

        private void addMatch(int match, int distance) {
            int k = LENGTH_BASE.length - 1;
            while (k > 0 && LENGTH_BASE[k] > match) {
                k--;
            }
            addSymbol(257 + k);
            addBits(match - LENGTH_BASE[k], LENGTH_EXTRA[k]);
            int d = DISTANCE_BASE.length - 1;
            while (d > 0 && DISTANCE_BASE[d] > distance) {
                d--;
            }
            addCode(d, 5);
            addBits(distance - DISTANCE_BASE[d], DISTANCE_EXTRA[d]);
        }

        private void addSymbol(int s) {
            if (s < 144) {
                addCode(0x30 + s, 8);
            } else if (s < 256) {
                addCode(0x190 + s - 144, 9);
            } else if (s < 280) {
                addCode(s - 256, 7);
            } else {
                addCode(0xC0 + s - 280, 8);
            }
        }

        /** Codes go from their highest bit on, numbers from their lowest. */
        private void addCode(int code, int many) {
            for (int k = many - 1; k >= 0; k--) {
                addBits((code >> k) & 1, 1);
            }
        }

        private void addBits(int v, int many) {
            for (int k = 0; k < many; k++) {
                bits |= ((v >> k) & 1) << bitCount;
                bitCount++;
                if (bitCount == 8) {
                    octet(bits);
                    bits = 0;
                    bitCount = 0;
                }
            }
        }
    }

    /** Reads PNG files. */
    private static final class PngReader {
        int faultSort;
        int faultPlace;
        private int[] data = NONE;
        private int n;
        private int width;
        private int height;
        private int colour;
        private final int[] palette = new int[256];
        private int paletteCount;
        private final int[] clear = new int[256];
        private int clearCount;
        private int firstPacked;
        private final Inflater inflater = new Inflater();

        private boolean fails(int sort, int place) {
            faultSort = sort;
            faultPlace = place;
            return false;
        }

        boolean read(int[] bytes, int many) {
            data = bytes;
            n = Math.min(many, bytes.length);
            colour = -1;
            paletteCount = 0;
            clearCount = 0;
            firstPacked = -1;
            inflater.length = 0;
            if (!isSigned()) {
                return fails(1, 0);
            }
            int place = SIGNATURE.length;
            int last = -1;
            for (int guard = 0; guard < BYTES && last < 0; guard++) {
                if (!isChunk(place) || !takeChunk(place)) {
                    return false;
                }
                last = fourAt(place + 4) == IEND ? place : -1;
                place += 12 + fourAt(place);
            }
            if (place != n) {
                return fails(1, place);
            }
            if (firstPacked < 0 || (colour == 3 && paletteCount <= 0)) {
                return fails(4, last);
            }
            int need = height * (1 + width * channels());
            if (!inflater.inflate(need) || !unfilter()) {
                return fails(5, firstPacked);
            }
            return colour != 3 || areIndices() || fails(6, firstPacked);
        }

        private boolean isSigned() {
            for (int i = 0; i < SIGNATURE.length; i++) {
                if (i >= n || data[i] != SIGNATURE[i]) {
                    return false;
                }
            }
            return true;
        }

        private int byteAt(int i) {
            return i >= 0 && i < n && i < data.length ? data[i] & 255 : 0;
        }

        private int fourAt(int i) {
            return byteAt(i) << 24 | byteAt(i + 1) << 16 | byteAt(i + 2) << 8 | byteAt(i + 3);
        }

        /** Whether a whole CHUNK with the right CRC stands there. */
        private boolean isChunk(int place) {
            int size = fourAt(place);
            if (place + 12 > n || size < 0 || size > n - place - 12) {
                return fails(1, place);
            }
            if (crc(data, place + 4, place + 8 + size) != fourAt(place + 8 + size)) {
                return fails(2, place);
            }
            return true;
        }

        private boolean takeChunk(int place) {
            int size = fourAt(place);
            int name = fourAt(place + 4);
            if ((colour < 0) != (name == IHDR)) {
                return fails(3, place);
            }
            if (name == IHDR) {
                return takeHeader(place + 8, size) || fails(3, place);
            }
            if (name == PLTE) {
                return takePalette(place + 8, size) || fails(4, place);
            }
            if (name == TRNS && colour == 3) {
                return takeClear(place + 8, size) || fails(4, place);
            }
            if (name == IDAT) {
                firstPacked = firstPacked < 0 ? place : firstPacked;
                for (int i = 0; i < size; i++) {
                    inflater.addByte(byteAt(place + 8 + i));
                }
            }
            return true;
        }

        private boolean takeHeader(int at, int size) {
            int sort = byteAt(at + 9);
            width = fourAt(at);
            height = fourAt(at + 4);
            if (size != 13 || width < 1 || width > SIDE || height < 1 || height > SIDE) {
                return false;
            }
            if (byteAt(at + 8) != 8 || sort > 6 || sort == 1 || sort == 5) {
                return false;
            }
            colour = sort;
            return byteAt(at + 10) == 0 && byteAt(at + 11) == 0 && byteAt(at + 12) == 0;
        }

        private boolean takePalette(int at, int size) {
            if (size < 3 || size > 768 || size % 3 != 0) {
                return false;
            }
            paletteCount = size / 3;
            for (int i = 0; i < paletteCount && i < palette.length; i++) {
                palette[i] = pack(0, byteAt(at + 3 * i), byteAt(at + 3 * i + 1), byteAt(at + 3 * i + 2));
            }
            return true;
        }

        private boolean takeClear(int at, int size) {
            if (size > paletteCount) {
                return false;
            }
            clearCount = size;
            for (int i = 0; i < size && i < clear.length; i++) {
                clear[i] = byteAt(at + i);
            }
            return true;
        }

        private int channels() {
            return colour == 2 ? 3 : colour == 4 ? 2 : colour == 6 ? 4 : 1;
        }

        /** Undoes the rows' filters in place. */
        private boolean unfilter() {
            int wide = channels();
            int stride = 1 + width * wide;
            for (int y = 0; y < height; y++) {
                int start = y * stride;
                int filter = inflater.at(start);
                if (filter > 4) {
                    return false;
                }
                for (int k = 1; k < stride; k++) {
                    int a = k > wide ? inflater.at(start + k - wide) : 0;
                    int b = y > 0 ? inflater.at(start + k - stride) : 0;
                    int c = y > 0 && k > wide ? inflater.at(start + k - stride - wide) : 0;
                    inflater.change(start + k, inflater.at(start + k) + foretold(filter, a, b, c));
                }
            }
            return true;
        }

        private boolean areIndices() {
            for (int y = 0; y < height; y++) {
                for (int x = 0; x < width; x++) {
                    if (inflater.at(y * (1 + width) + 1 + x) >= paletteCount) {
                        return false;
                    }
                }
            }
            return true;
        }

        private int colourAt(int x, int y) {
            int wide = channels();
            int at = y * (1 + width * wide) + 1 + x * wide;
            int first = inflater.at(at) & 255;
            switch (colour) {
                case 0: return pack(255, first, first, first);
                case 2: return pack(255, first, inflater.at(at + 1), inflater.at(at + 2));
                case 3: return (first < clearCount ? clear[first] : 255) << 24 | palette[first];
                case 4: return pack(inflater.at(at + 1), first, first, first);
                default: return pack(inflater.at(at + 3), first, inflater.at(at + 1), inflater.at(at + 2));
            }
        }

        void paint(int[] pixels, int w, int h) {
            for (int y = 0; y < h && y < height; y++) {
                for (int x = 0; x < w && x < width; x++) {
                    int i = y * w + x;
                    if (i < pixels.length) {
                        pixels[i] = colourAt(x, y);
                    }
                }
            }
        }
    }

    /** Unpacks IDAT's bytes: the two bytes of zlib, DEFLATE and ADLER-32. */
    private static final class Inflater {
        private static final int LONGEST = 15;
        private final int[] packed = new int[BYTES];
        int length;
        private int bit;
        private boolean wrong;
        private final int[] out = new int[ROW_BYTES];
        private int size;
        private int need;
        private final int[] lengths = new int[320];
        /** How many codes there are of each length, and the symbols by their codes. */
        private final int[] literalCounts = new int[LONGEST + 1];
        private final int[] literalSymbols = new int[288];
        private final int[] distanceCounts = new int[LONGEST + 1];
        private final int[] distanceSymbols = new int[32];
        private final int[] offsets = new int[LONGEST + 2];

        void addByte(int v) {
            if (length < BYTES) {
                packed[length] = v;
                length++;
            }
        }

        int at(int i) {
            return i >= 0 && i < size && i < ROW_BYTES ? out[i] : 0;
        }

        void change(int i, int v) {
            if (i >= 0 && i < size && i < ROW_BYTES) {
                out[i] = v & 255;
            }
        }

        /** Whether the bytes gathered are right and make just as many as are needed. */
        boolean inflate(int bytesNeeded) {
            bit = 0;
            size = 0;
            wrong = false;
            need = Math.min(bytesNeeded, ROW_BYTES);
            int first = readBits(8);
            int second = readBits(8);
            wrong |= first != 120 || (first * 256 + second) % 31 != 0 || (second & 32) != 0;
            boolean last = false;
            for (int guard = 0; guard < 8 * BYTES && !last && !wrong; guard++) {
                last = readBits(1) == 1;
                int sort = readBits(2);
                switch (sort) {
                    case 0: stored(); break;
                    case 1:
                        fixedCodes();
                        symbols();
                        break;
                    case 2:
                        toldCodes();
                        symbols();
                        break;
                    default: wrong = true; break;
                }
            }
            toByte();
            int sum = readBits(8) << 24 | readBits(8) << 16 | readBits(8) << 8 | readBits(8);
            return !wrong && bit == 8 * length && size == need && sum == adler(out, size);
        }

        private int readBits(int many) {
            int all = 0;
            for (int k = 0; k < many; k++) {
                if (bit >= 8 * length || bit >= 8 * BYTES) {
                    wrong = true;
                    return 0;
                }
                all |= ((packed[bit >> 3] >> (bit & 7)) & 1) << k;
                bit++;
            }
            return all;
        }

        private void toByte() {
            bit = (bit + 7) & ~7;
        }

        private void emit(int v) {
            if (size >= need || size >= ROW_BYTES) {
                wrong = true;
            } else {
                out[size] = v;
                size++;
            }
        }

        private void stored() {
            toByte();
            int many = readBits(16);
            wrong |= readBits(16) != (many ^ 0xFFFF);
            for (int i = 0; i < many && !wrong; i++) {
                int v = readBits(8);
                if (!wrong) {
                    emit(v);
                }
            }
        }

        private void fixedCodes() {
            for (int i = 0; i < 288; i++) {
                lengths[i] = i < 144 ? 8 : i < 256 ? 9 : i < 280 ? 7 : 8;
            }
            for (int i = 288; i < 318; i++) {
                lengths[i] = 5;
            }
            order(literalCounts, literalSymbols, 0, 288);
            order(distanceCounts, distanceSymbols, 288, 30);
        }

        /** Orders the symbols by their codes: how many codes there is still room for (below 0: too many are told). */
        private int order(int[] counts, int[] symbols, int first, int many) {
            Arrays.fill(counts, 0);
            for (int i = first; i < first + many && i < lengths.length; i++) {
                counts[lengths[i] & LONGEST]++;
            }
            int left = 1;
            offsets[1] = 0;
            for (int k = 1; k <= LONGEST; k++) {
                left = left < 0 ? left : 2 * left - counts[k];
                offsets[k + 1] = offsets[k] + counts[k];
            }
            for (int i = 0; i < many && first + i < lengths.length; i++) {
                int k = lengths[first + i] & LONGEST;
                if (k != 0 && offsets[k] < symbols.length) {
                    symbols[offsets[k]] = i;
                    offsets[k]++;
                }
            }
            return left;
        }

        /** Codes are right if they are complete, or just one of length 1. */
        private static boolean areRight(int left, int[] counts, int many) {
            return left == 0 || (left > 0 && counts[1] == 1 && counts[0] == many - 1);
        }

        private void toldCodes() {
            int literals = readBits(5) + 257;
            int distances = readBits(5) + 1;
            int told = readBits(4) + 4;
            wrong |= literals > 286 || distances > 30;
            Arrays.fill(lengths, 0);
            for (int i = 0; i < told && i < LENGTH_ORDER.length && !wrong; i++) {
                lengths[LENGTH_ORDER[i]] = readBits(3);
            }
            int left = order(literalCounts, literalSymbols, 0, LENGTH_ORDER.length);
            wrong |= !areRight(left, literalCounts, LENGTH_ORDER.length);
            readLengths(literals + distances);
            if (wrong) {
                return;
            }
            wrong = lengths[256] == 0;
            left = order(literalCounts, literalSymbols, 0, literals);
            wrong |= !areRight(left, literalCounts, literals);
            left = order(distanceCounts, distanceSymbols, literals, distances);
            wrong |= !areRight(left, distanceCounts, distances) && distanceCounts[0] != distances;
        }

        private void readLengths(int many) {
            int at = 0;
            for (int guard = 0; guard < many && at < many && !wrong; guard++) {
                int s = decode(literalCounts, literalSymbols);
                int again = s < 16 ? 1 : s == 16 ? 3 + readBits(2) : s == 17 ? 3 + readBits(3) : 11 + readBits(7);
                wrong |= (s == 16 && at == 0) || at + again > many || many > lengths.length;
                int v = s < 16 ? s : s == 16 && at > 0 ? lengths[at - 1] : 0;
                for (int i = 0; i < again && !wrong; i++) {
                    lengths[at] = v;
                    at++;
                }
            }
        }

        /** The next symbol; 0 and wrong if no code stands there. */
        private int decode(int[] counts, int[] symbols) {
            int code = 0;
            int first = 0;
            int index = 0;
            for (int k = 1; k <= LONGEST && !wrong; k++) {
                code |= readBits(1);
                if (code - counts[k] < first) {
                    int i = index + code - first;
                    return i >= 0 && i < symbols.length ? symbols[i] : 0;
                }
                index += counts[k];
                first = (first + counts[k]) << 1;
                code <<= 1;
            }
            wrong = true;
            return 0;
        }

        private void symbols() {
            for (int guard = 0; guard < 8 * BYTES && !wrong; guard++) {
                int s = decode(literalCounts, literalSymbols);
                if (wrong || s == 256) {
                    return;
                }
                if (s < 256) {
                    emit(s);
                } else {
                    copy(s - 257);
                }
            }
        }

        private void copy(int k) {
            if (k < 0 || k >= LENGTH_BASE.length) {
                wrong = true;
                return;
            }
            int many = LENGTH_BASE[k] + readBits(LENGTH_EXTRA[k]);
            int d = decode(distanceCounts, distanceSymbols);
            if (wrong || d < 0 || d >= DISTANCE_BASE.length) {
                wrong = true;
                return;
            }
            int distance = DISTANCE_BASE[d] + readBits(DISTANCE_EXTRA[d]);
            wrong |= distance > size;
            for (int i = 0; i < many && !wrong; i++) {
                emit(at(size - distance));
            }
        }
    }
}
