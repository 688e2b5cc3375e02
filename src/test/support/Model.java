import java.util.ArrayList;
import java.util.Arrays;
import java.util.HashMap;
import java.util.List;
import java.util.Map;
import java.util.NoSuchElementException;
import java.util.TreeMap;

/**
 * The whole studio a second time, by the words of the document, plainly and slowly: calls of the same names with the same
 * answers, for ModelTest to hold the program against.
 */
final class Model {
    private static final int[] LEAST = {1, 0, 0, 0, 0, 2, 0, 2, 0, 0, 0, 0, 0, 0};
    private static final int[] MOST = {4, 255, 0, 0, 0, 8, 255, 64, 0, 255, 0, 0, 255, 255};

    /** A LAYER. */
    static final class Sheet implements Cloneable {
        int number;
        int kind;
        int parent;
        int opacity = 255;
        int mode;
        int shown = 1;
        int clipped;
        int dx;
        int dy;
        int p;
        int q;
        int[] ramp = new int[4];
        int[] pixels;
        int[] mask;

        Sheet copy() {
            try {
                return (Sheet) clone();
            } catch (CloneNotSupportedException e) {
                throw new AssertionError(e);
            }
        }
    }

    /** All LAYERS, and for each PARENT the numbers of its LAYERS from the lowest. */
    static final class Pile {
        final Map<Integer, Sheet> sheets = new TreeMap<>();
        final Map<Integer, List<Integer>> order = new HashMap<>();
        int next;

        Pile() {
            order.put(-1, new ArrayList<>());
        }

        Pile copy() {
            Pile all = new Pile();
            sheets.forEach((number, l) -> all.sheets.put(number, l.copy()));
            order.forEach((parent, numbers) -> all.order.put(parent, new ArrayList<>(numbers)));
            all.next = next;
            return all;
        }

        List<Integer> of(int parent) {
            return order.getOrDefault(parent, List.of());
        }

        List<Integer> in(int parent) {
            List<Integer> all = new ArrayList<>();
            for (int l : of(parent)) {
                all.add(l);
                all.addAll(in(l));
            }
            return all;
        }

        void empty(int group) {
            for (int l : in(group)) {
                sheets.remove(l);
                order.remove(l);
            }
            order.remove(group);
        }

        void remove(int l) {
            empty(l);
            order.get(sheets.get(l).parent).remove((Integer) l);
            sheets.remove(l);
        }
    }

    private int w = 8;
    private int h = 8;
    private Pile now = new Pile();
    private final List<Pile> past = new ArrayList<>();
    private final List<Pile> undone = new ArrayList<>();
    private final Map<Integer, int[]> kept = new HashMap<>();
    private int worked;
    private int[] selection = all(255);
    private int front = 255 << 24;
    private int[] brush = {8, 255, 4, 255, 255};
    private int[] source = {0, 0};
    private int[] points = {};
    private final List<TreeMap<Integer, Integer>> curves = new ArrayList<>();
    private final int[] kernel = {0, 0, 0, 0, 1, 0, 0, 0, 0, 1, 0};
    private final int[][] profiles = new int[4][];
    private final int[] frame = {0, 64, 64, 64};
    private final List<List<int[]>> paths = new ArrayList<>();
    private final int[][] glyphs = new int[256][];
    private byte[] input = {};
    private byte[] out = {};
    private int[] fault = {0, 0};

    Model() {
        for (int i = 0; i < 32; i++) {
            curves.add(new TreeMap<>());
        }
        for (int p = 0; p < 4; p++) {
            profiles[p] = new int[] {1024, 0, 0, 0, 1024, 0, 0, 0, 1024, 0};
        }
        for (int p = 0; p < 8; p++) {
            paths.add(new ArrayList<>());
        }
    }

    // ---- What ModelTest looks at to find calls that are worth to be made

    int width() {
        return w;
    }

    int height() {
        return h;
    }

    int nextNumber() {
        return now.next;
    }

    int among(int parent) {
        return now.of(parent).size();
    }

    /** Numbers of the LAYERS of these KINDS. */
    List<Integer> layersOf(int least, int most) {
        List<Integer> all = new ArrayList<>();
        for (Sheet l : now.sheets.values()) {
            if (l.kind >= least && l.kind <= most) {
                all.add(l.number);
            }
        }
        return all;
    }

    int kindOf(int l) {
        return now.sheets.containsKey(l) ? now.sheets.get(l).kind : -1;
    }

    static int leastAmount(int filter) {
        return filter < 0 || filter > 13 ? 0 : LEAST[filter];
    }

    static int greatestAmount(int filter) {
        return filter < 0 || filter > 13 ? 0 : MOST[filter];
    }

    // ---- What calls look at first

    private static void range(int v, int least, int most) {
        if (v < least || v > most) {
            throw new IllegalArgumentException();
        }
    }

    private static void refuse(boolean so) {
        if (so) {
            throw new IllegalStateException();
        }
    }

    private static void full(boolean so) {
        if (so) {
            throw new IndexOutOfBoundsException();
        }
    }

    private static void missing(boolean so) {
        if (so) {
            throw new NoSuchElementException();
        }
    }

    private Sheet known(int l) {
        missing(!now.sheets.containsKey(l));
        return now.sheets.get(l);
    }

    private Sheet pixels(int l) {
        range(known(l).kind, 0, 0);
        return known(l);
    }

    private Sheet pixelsOrMissing(int l) {
        missing(known(l).kind != 0);
        return known(l);
    }

    private void place(int x, int y) {
        missing(x < 0 || y < 0 || x >= w || y >= h);
    }

    private void parent(int l) {
        missing(l != -1 && kindOf(l) != 1);
    }

    private static void filterRange(int kind, int n) {
        range(kind, 0, 13);
        range(n, LEAST[kind], MOST[kind]);
    }

    private int[] all(int v) {
        int[] all = new int[w * h];
        Arrays.fill(all, v);
        return all;
    }

    private int at(int[] row, int x, int y) {
        return x < 0 || y < 0 || x >= w || y >= h ? 0 : row[y * w + x];
    }

    // ---- HISTORY

    /** Begins an EDIT: what it changes is a copy. */
    private Pile edit() {
        past.add(now);
        if (past.size() > 24) {
            past.remove(0);
        }
        undone.clear();
        now = now.copy();
        return now;
    }

    private Sheet edit(int l) {
        kept.clear();
        return edit().sheets.get(l);
    }

    /** EDITS 11, 13 .. 16. */
    private int repaint(int l, int[] pixels) {
        Sheet old = now.sheets.get(l);
        int[] box = {100, 100, -100, -100};
        int many = 0;
        for (int i = 0; i < pixels.length; i++) {
            if (pixels[i] != old.pixels[i]) {
                many++;
                box[0] = Math.min(box[0], i % w);
                box[1] = Math.min(box[1], i / w);
                box[2] = Math.max(box[2], i % w);
                box[3] = Math.max(box[3], i / w);
            }
        }
        int reach = reaches();
        for (int t = 0; t < 9 && many > 0; t++) {
            boolean across = box[0] + old.dx - reach <= t % 3 * 8 + 7 && box[2] + old.dx + reach >= t % 3 * 8;
            boolean down = box[1] + old.dy - reach <= t / 3 * 8 + 7 && box[3] + old.dy + reach >= t / 3 * 8;
            if (across && down) {
                kept.remove(t);
            }
        }
        edit().sheets.get(l).pixels = pixels;
        return many;
    }

    private int reaches() {
        int sum = 0;
        for (int l : layersOf(5, 5)) {
            Sheet live = now.sheets.get(l);
            boolean one = live.p >= 1 && live.p <= 4 || live.p == 10;
            sum += live.p == 0 ? live.q : live.p == 5 ? live.q - 1 : one ? 1 : 0;
        }
        return sum;
    }

    int undo() {
        refuse(past.isEmpty());
        undone.add(now);
        now = past.remove(past.size() - 1);
        kept.clear();
        return past.size();
    }

    int redo() {
        refuse(undone.isEmpty());
        past.add(now);
        now = undone.remove(undone.size() - 1);
        kept.clear();
        return past.size();
    }

    // ---- What is seen

    private int[] seen() {
        return seen(now, sheets(now, -1));
    }

    private static List<Sheet> sheets(Pile pile, int parent) {
        List<Sheet> all = new ArrayList<>();
        for (int l : pile.of(parent)) {
            all.add(pile.sheets.get(l));
        }
        return all;
    }

    private int[] seen(Pile pile, List<Sheet> sheets) {
        int[] b = all(0);
        for (int i = 0; i < sheets.size(); i++) {
            Sheet l = sheets.get(i);
            if (l.shown == 1 && l.kind >= 4) {
                b = adjusted(b, l, clipping(pile, sheets, i));
            } else if (l.shown == 1) {
                int[] s = colours(pile, l);
                int[] e = there(s, l, clipping(pile, sheets, i));
                for (int k = 0; k < b.length; k++) {
                    b[k] = Told.over(b[k], s[k], e[k], l.mode);
                }
            }
        }
        return b;
    }

    private int[] clipping(Pile pile, List<Sheet> sheets, int i) {
        if (sheets.get(i).clipped == 0) {
            return all(255);
        }
        int j = i - 1;
        while (j >= 0 && sheets.get(j).clipped == 1) {
            j--;
        }
        boolean none = j < 0 || sheets.get(j).shown == 0 || sheets.get(j).kind >= 4;
        return none ? all(0) : there(colours(pile, sheets.get(j)), sheets.get(j), all(255));
    }

    private static int[] there(int[] s, Sheet l, int[] k) {
        int[] e = new int[s.length];
        for (int i = 0; i < e.length; i++) {
            int m = l.mask == null ? 255 : l.mask[i];
            e[i] = Told.mul(Told.mul(Told.mul(Told.sample(s[i], 3), l.opacity), m), k[i]);
        }
        return e;
    }

    private int[] adjusted(int[] b, Sheet l, int[] k) {
        int[] s = b.clone();
        if (l.kind == 5) {
            s = Told.filter(l.p, l.q, b, w, kernel);
        }
        int[] all = new int[b.length];
        for (int i = 0; i < b.length; i++) {
            int m = l.mask == null ? 255 : l.mask[i];
            s[i] = l.kind == 4 ? byCurve(l.p, b[i]) : s[i];
            all[i] = Told.mixed(b[i], s[i], Told.mul(Told.mul(l.opacity, m), k[i]));
        }
        return all;
    }

    private int[] colours(Pile pile, Sheet l) {
        if (l.kind == 1) {
            return seen(pile, sheets(pile, l.number));
        }
        int[] all = new int[w * h];
        for (int i = 0; i < all.length; i++) {
            int x = i % w;
            int y = i / w;
            all[i] = l.kind == 0 ? at(l.pixels, x - l.dx, y - l.dy) : l.kind == 2 ? l.p : ramped(l, x, y);
        }
        return all;
    }

    private static int ramped(Sheet l, int x, int y) {
        int across = l.ramp[2] - l.ramp[0];
        int down = l.ramp[3] - l.ramp[1];
        int v = (x - l.ramp[0]) * across + (y - l.ramp[1]) * down;
        int n = across * across + down * down;
        return n == 0 ? l.p : Told.mixed(l.p, l.q, Told.clip(255 * v / n));
    }

    private int byCurve(int k, int c) {
        int[] all = new int[3];
        for (int i = 0; i < 3; i++) {
            all[i] = bent(curves.get(4 * k + 3), bent(curves.get(4 * k + i), Told.sample(c, i)));
        }
        return Told.colour(Told.sample(c, 3), all[0], all[1], all[2]);
    }

    private static int bent(TreeMap<Integer, Integer> curve, int v) {
        Map.Entry<Integer, Integer> a = curve.floorEntry(v);
        Map.Entry<Integer, Integer> b = curve.ceilingEntry(v);
        if (a == null || b == null || a.getKey().equals(b.getKey())) {
            return curve.isEmpty() ? v : a == null ? b.getValue() : a.getValue();
        }
        return a.getValue() + (b.getValue() - a.getValue()) * (v - a.getKey()) / (b.getKey() - a.getKey());
    }

    // ---- The tree

    void open(int width, int height) {
        range(width, 1, 24);
        range(height, 1, 24);
        w = width;
        h = height;
        now = new Pile();
        past.clear();
        undone.clear();
        kept.clear();
        selection = all(255);
    }

    int layer(int kind, int parent, int at) {
        range(kind, 0, 5);
        parent(parent);
        range(at, 0, among(parent));
        full(now.next == 30);
        return add(kind, parent, at, all(0));
    }

    private int add(int kind, int parent, int at, int[] pixels) {
        Sheet l = new Sheet();
        l.number = now.next;
        l.kind = kind;
        l.parent = parent;
        l.p = kind == 5 ? 8 : 0;
        l.pixels = pixels;
        Pile pile = edit();
        kept.clear();
        pile.sheets.put(l.number, l);
        pile.order.get(parent).add(at, l.number);
        if (kind == 1) {
            pile.order.put(l.number, new ArrayList<>());
        }
        pile.next++;
        return l.number;
    }

    void drop(int l) {
        known(l);
        edit(l);
        now.remove(l);
    }

    void move(int l, int parent, int at) {
        int from = known(l).parent;
        parent(parent);
        range(at, 0, among(parent) - (from == parent ? 1 : 0));
        refuse(parent == l || now.in(l).contains(parent));
        edit(l).parent = parent;
        now.order.get(from).remove((Integer) l);
        now.order.get(parent).add(at, l);
    }

    void set(int l, int what, int v) {
        range(what, 0, 5);
        range(v, what < 4 ? 0 : -64, new int[] {255, 15, 1, 1, 64, 64}[what]);
        known(l);
        Sheet x = edit(l);
        switch (what) {
            case 0: x.opacity = v; break;
            case 1: x.mode = v; break;
            case 2: x.shown = v; break;
            case 3: x.clipped = v; break;
            case 4: x.dx = v; break;
            default: x.dy = v; break;
        }
    }

    void mask(int l, int how) {
        range(how, 0, 3);
        refuse(known(l).mask == null && how == 2);
        Sheet x = edit(l);
        int[] turned = x.mask == null ? null : x.mask.clone();
        for (int i = 0; i < w * h && how == 2; i++) {
            turned[i] = 255 - turned[i];
        }
        x.mask = how == 0 ? null : how == 1 ? selection.clone() : how == 2 ? turned : all(255);
    }

    void colours(int l, int p, int q) {
        int kind = known(l).kind;
        range(kind, 2, 5);
        if (kind == 4) {
            range(p, 0, 7);
        } else if (kind == 5) {
            filterRange(p, q);
        }
        Sheet x = edit(l);
        x.p = p;
        x.q = kind == 3 || kind == 5 ? q : 0;
    }

    void ramp(int l, int x0, int y0, int x1, int y1) {
        for (int v : new int[] {x0, y0, x1, y1}) {
            range(v, -100, 100);
        }
        range(known(l).kind, 3, 3);
        edit(l).ramp = new int[] {x0, y0, x1, y1};
    }

    void flat(int l) {
        refuse(known(l).kind >= 4);
        Sheet alone = known(l).copy();
        alone.shown = 1;
        alone.clipped = 0;
        int[] pixels = seen(now, List.of(alone));
        flatten(edit(l), pixels);
    }

    private void flatten(Sheet x, int[] pixels) {
        now.empty(x.number);
        x.kind = 0;
        x.opacity = 255;
        x.mode = 0;
        x.dx = 0;
        x.dy = 0;
        x.p = 0;
        x.q = 0;
        x.ramp = new int[4];
        x.pixels = pixels;
        x.mask = null;
    }

    void merge(int l) {
        List<Integer> beside = now.of(known(l).parent);
        int at = beside.indexOf(l);
        refuse(at == 0 || known(l).kind >= 4 || kindOf(beside.get(at - 1)) >= 4);
        int below = beside.get(at - 1);
        Sheet lower = known(below).copy();
        Sheet upper = known(l).copy();
        lower.shown = 1;
        upper.shown = 1;
        int[] pixels = seen(now, List.of(lower, upper));
        flatten(edit(below), pixels);
        now.remove(l);
    }

    // ---- PIXELS

    void turn(int l, int how) {
        range(how, 0, 2);
        int[] old = pixels(l).pixels;
        refuse(how == 2 && w != h);
        int[] pixels = new int[w * h];
        for (int i = 0; i < pixels.length; i++) {
            int x = i % w;
            int y = i / w;
            pixels[i] = how == 0 ? at(old, w - 1 - x, y) : how == 1 ? at(old, x, h - 1 - y) : at(old, y, x);
        }
        edit(l).pixels = pixels;
    }

    void scale(int l, int n, int d, boolean smooth) {
        range(n, 1, 16);
        range(d, 1, 16);
        int[] old = pixels(l).pixels;
        int[] pixels = new int[w * h];
        for (int i = 0; i < pixels.length; i++) {
            int x = (2 * (i % w) + 1) * d;
            int y = (2 * (i / w) + 1) * d;
            pixels[i] = smooth ? amid(old, x * 8 / n - 8, y * 8 / n - 8) : at(old, x / (2 * n), y / (2 * n));
        }
        edit(l).pixels = pixels;
    }

    private int amid(int[] old, int x, int y) {
        int f = x & 15;
        int g = y & 15;
        int[] weights = {(16 - f) * (16 - g), f * (16 - g), (16 - f) * g, f * g};
        int[] sums = new int[3];
        int a = 0;
        for (int i = 0; i < 4; i++) {
            int c = at(old, (x >> 4) + i % 2, (y >> 4) + i / 2);
            int weight = weights[i] * Told.sample(c, 3);
            a += weight;
            for (int k = 0; k < 3; k++) {
                sums[k] += weight * Told.sample(c, k);
            }
        }
        return a == 0 ? 0 : Told.colour(a + 128 >> 8, (sums[0] + a / 2) / a, (sums[1] + a / 2) / a, (sums[2] + a / 2) / a);
    }

    /** how 0 over, 1 erase, 2 replace. */
    private static int put(int how, int b, int c, int t) {
        int e = Told.mul(Told.sample(c, 3), t);
        if (how == 0) {
            return Told.over(b, c, e, 0);
        }
        return how == 1 ? Told.mul(Told.sample(b, 3), 255 - e) << 24 | b & 0xFFFFFF : Told.mixed(b, c, t);
    }

    /** The SELECTION's value at the shifted place of pixel i. */
    private int chosen(Sheet l, int i) {
        return at(selection, i % w + l.dx, i / w + l.dy);
    }

    int fill(int l, int how) {
        range(how, 0, 2);
        Sheet old = pixels(l);
        int[] pixels = old.pixels.clone();
        for (int i = 0; i < pixels.length; i++) {
            pixels[i] = put(how, pixels[i], front, chosen(old, i));
        }
        return repaint(l, pixels);
    }

    int stroke(int l, int how) {
        range(how, 0, 3);
        Sheet old = pixels(l);
        refuse(points.length == 0);
        int[] cover = Told.cover(w, h, brush, points);
        int[] soft = Told.filter(0, 1, old.pixels, w, kernel);
        int[] pixels = old.pixels.clone();
        for (int i = 0; i < pixels.length; i++) {
            int t = Told.mul(Told.mul(cover[i], brush[4]), chosen(old, i));
            int far = at(old.pixels, i % w + source[0], i / w + source[1]);
            pixels[i] = put(new int[] {0, 1, 0, 2}[how], pixels[i], how == 2 ? far : how == 3 ? soft[i] : front, t);
        }
        points = new int[0];
        return repaint(l, pixels);
    }

    int filter(int l, int kind, int n) {
        filterRange(kind, n);
        Sheet old = pixels(l);
        int[] pixels = Told.filter(kind, n, old.pixels, w, kernel);
        for (int i = 0; i < pixels.length; i++) {
            pixels[i] = Told.mixed(old.pixels[i], pixels[i], chosen(old, i));
        }
        return repaint(l, pixels);
    }

    int path(int l, int p, int rule) {
        range(p, 0, 7);
        range(rule, 0, 1);
        Sheet old = pixels(l);
        return repaint(l, filled(old, old.pixels, p, rule, 0, 0));
    }

    private int[] filled(Sheet l, int[] pixels, int p, int rule, int dx, int dy) {
        int[] values = values(p, rule, dx, dy);
        int[] all = new int[pixels.length];
        for (int i = 0; i < all.length; i++) {
            all[i] = put(0, pixels[i], front, Told.mul(values[i], chosen(l, i)));
        }
        return all;
    }

    private int[] values(int p, int rule, int dx, int dy) {
        int[][] figures = figures(p, dx, dy);
        int[] all = new int[w * h];
        for (int i = 0; i < all.length; i++) {
            all[i] = Told.covered(i % w, i / w, rule, figures);
        }
        return all;
    }

    /** The corners of each figure of a PATH. */
    private int[][] figures(int p, int dx, int dy) {
        List<int[]> all = new ArrayList<>();
        int[] figure = {};
        List<int[]> steps = paths.get(p);
        for (int i = 0; i < steps.size(); i++) {
            int[] step = steps.get(i);
            if (step[0] == 0 && i > 0) {
                all.add(figure);
                figure = new int[0];
            }
            if (step[0] != 2) {
                figure = with(figure, step[1] + dx, step[2] + dy);
            } else if (i + 1 < steps.size()) {
                figure = curved(figure, step[1] + dx, step[2] + dy, steps.get(i + 1)[1] + dx, steps.get(i + 1)[2] + dy);
            }
        }
        all.add(figure);
        return all.toArray(new int[0][]);
    }

    /** The points of a curve but its end, which is the next STEP's. */
    private static int[] curved(int[] figure, int qx, int qy, int ex, int ey) {
        int px = figure[figure.length - 2];
        int py = figure[figure.length - 1];
        int[] all = figure;
        for (int j = 1; j < 8; j++) {
            int k = 8 - j;
            all = with(all, px * k * k + 2 * qx * j * k + ex * j * j >> 6, py * k * k + 2 * qy * j * k + ey * j * j >> 6);
        }
        return all;
    }

    private static int[] with(int[] row, int... more) {
        int[] all = Arrays.copyOf(row, row.length + more.length);
        System.arraycopy(more, 0, all, row.length, more.length);
        return all;
    }

    int text(int l, int x, int y) {
        byte[] bytes = takeInput();
        range(x, -2000, 2000);
        range(y, -2000, 2000);
        Sheet old = pixels(l);
        int[] pixels = old.pixels;
        int right = x;
        for (int i = 0; i < Math.min(40, bytes.length); i++) {
            int[] glyph = glyphs[bytes[i] & 255];
            if (glyph != null) {
                pixels = filled(old, pixels, glyph[0], 0, right, y);
                right += glyph[1];
            }
        }
        return repaint(l, pixels);
    }

    void convert(int l, int p, int q) {
        range(p, 0, 3);
        range(q, 0, 3);
        int[] pixels = pixels(l).pixels.clone();
        refuse(Told.determinant(profiles[q]) == 0);
        for (int i = 0; i < pixels.length; i++) {
            pixels[i] = i > 0 && now.sheets.get(l).pixels[i] == now.sheets.get(l).pixels[i - 1] ? pixels[i - 1]
                : Told.converted(pixels[i], profiles[p], profiles[q]);
        }
        edit(l).pixels = pixels;
    }

    int few(int l, int n, boolean dither) {
        range(n, 2, 16);
        int[] old = pixels(l).pixels;
        boolean none = true;
        for (int c : old) {
            none &= Told.sample(c, 3) == 0;
        }
        int[] fewer = none ? with(old, 0) : Told.few(old, w, n, dither);
        edit(l).pixels = Arrays.copyOf(fewer, old.length);
        return fewer[old.length];
    }

    // ---- INPUT

    int feed(int a, int b, int c, int d, int e) {
        full(input.length > 7980);
        input = PngFile.join(input, PngFile.four(a), PngFile.four(b), PngFile.four(c), PngFile.four(d), PngFile.four(e));
        return input.length;
    }

    int end(int n) {
        range(n, 0, input.length);
        input = Arrays.copyOf(input, n);
        return n;
    }

    int fault(int what) {
        return what == 0 || what == 1 ? fault[what] : -1;
    }

    private byte[] takeInput() {
        byte[] bytes = input;
        input = new byte[0];
        fault = new int[2];
        return bytes;
    }

    private void fail(int sort, int place) {
        fault = new int[] {sort, place};
        throw new UnsupportedOperationException();
    }

    int raw() {
        byte[] bytes = takeInput();
        full(now.next == 30);
        if (bytes.length != 2 * w * h) {
            fail(1, bytes.length);
        }
        int[] light = new int[w * h];
        for (int i = 0; i < light.length; i++) {
            int v = (bytes[2 * i] & 255) << 8 | bytes[2 * i + 1] & 255;
            if (v > 4095) {
                fail(2, 2 * i);
            }
            light[i] = Math.max(0, Math.min(4095, (v - frame[0]) * frame[1 + sort(i)] / 64));
        }
        int[] pixels = new int[w * h];
        for (int i = 0; i < pixels.length; i++) {
            pixels[i] = Told.colour(255, light(light, i, 0) >> 4, light(light, i, 1) >> 4, light(light, i, 2) >> 4);
        }
        return add(0, -1, among(-1), pixels);
    }

    /** Which of R, G, B a RAW frame has at pixel i. */
    private int sort(int i) {
        return i % w % 2 == 0 && i / w % 2 == 0 ? 0 : i % w % 2 == 1 && i / w % 2 == 1 ? 2 : 1;
    }

    private int light(int[] light, int i, int colour) {
        if (sort(i) == colour) {
            return light[i];
        }
        int sum = 0;
        int k = 0;
        for (int j = 0; j < light.length; j++) {
            if (Math.abs(j % w - i % w) <= 1 && Math.abs(j / w - i / w) <= 1 && sort(j) == colour) {
                sum += light[j];
                k++;
            }
        }
        return k == 0 ? 0 : (sum + k / 2) / k;
    }

    int png() {
        byte[] bytes = takeInput();
        full(now.next == 30);
        ModelPng file = new ModelPng(bytes);
        if (file.fault != 0) {
            fail(file.fault, file.place);
        }
        int[] pixels = new int[w * h];
        for (int i = 0; i < pixels.length; i++) {
            pixels[i] = i % w < file.w && i / w < file.h ? file.colours[i / w * file.w + i % w] : 0;
        }
        return add(0, -1, among(-1), pixels);
    }

    // ---- SELECTION

    int select(int shape, int way, int a, int b, int c, int d) {
        range(shape, 0, 6);
        range(way, 0, 3);
        boolean wand = shape == 3 || shape == 4;
        boolean box = shape == 1 || shape == 2;
        range(a, wand || shape == 6 ? 0 : -100, wand ? w - 1 : shape == 6 ? 7 : 100);
        range(b, wand || shape == 6 ? 0 : -100, wand ? h - 1 : shape == 6 ? 1 : 100);
        range(c, wand || box ? 0 : -100, wand ? 255 : 100);
        range(d, box ? 0 : -100, 100);
        int[] v = shape == 5 ? alphas(pixelsOrMissing(a)) : shape == 6 ? values(a, b, 0, 0) : wand ? alike(shape, a, b, c) : all(255);
        for (int i = 0; i < v.length; i++) {
            boolean in = i % w >= a && i % w < a + c && i / w >= b && i / w < b + d;
            v[i] = shape == 1 ? in ? 255 : 0 : shape == 2 ? ellipse(i, a, b, c, d) : v[i];
            int old = selection[i];
            selection[i] = way == 0 ? v[i] : way == 1 ? Math.max(old, v[i]) : way == 2 ? Math.max(0, old - v[i]) : Math.min(old, v[i]);
        }
        return above();
    }

    private int above() {
        int many = 0;
        for (int v : selection) {
            many += v > 0 ? 1 : 0;
        }
        return many;
    }

    private int[] alphas(Sheet l) {
        int[] all = colours(now, l);
        for (int i = 0; i < all.length; i++) {
            all[i] = Told.sample(all[i], 3);
        }
        return all;
    }

    private int ellipse(int i, int a, int b, int c, int d) {
        int many = 0;
        for (int k = 0; k < 16; k++) {
            long u = 8 * (i % w) + 2 * (k % 4) + 1 - 8 * a - 4 * c;
            long v = 8 * (i / w) + 2 * (k / 4) + 1 - 8 * b - 4 * d;
            long halfC = 4 * c;
            long halfD = 4 * d;
            boolean in = u * u * halfD * halfD + v * v * halfC * halfC <= halfC * halfC * halfD * halfD;
            many += c > 0 && d > 0 && in ? 1 : 0;
        }
        return (255 * many + 8) / 16;
    }

    private int[] alike(int shape, int a, int b, int most) {
        int[] seen = seen();
        int[] all = new int[w * h];
        for (int i = 0; i < all.length; i++) {
            boolean in = true;
            for (int k = 0; k < 4; k++) {
                in &= Math.abs(Told.sample(seen[i], k) - Told.sample(seen[b * w + a], k)) <= most;
            }
            all[i] = in ? shape == 4 ? 255 : 1 : 0;
        }
        if (shape == 3) {
            walk(all, a, b);
        }
        for (int i = 0; i < all.length; i++) {
            all[i] = all[i] == 255 ? 255 : 0;
        }
        return all;
    }

    /** Marks all that can be come to over places that are 1. */
    private void walk(int[] all, int x, int y) {
        if (at(all, x, y) == 1) {
            all[y * w + x] = 255;
            walk(all, x - 1, y);
            walk(all, x + 1, y);
            walk(all, x, y - 1);
            walk(all, x, y + 1);
        }
    }

    int reselect(int how, int n) {
        range(how, 0, 3);
        range(n, how == 0 ? 0 : 1, how == 0 ? 0 : 8);
        selection = reselected(how, n);
        if (how == 3) {
            selection = reselected(how, n);
        }
        return above();
    }

    private int[] reselected(int how, int n) {
        int[] all = new int[w * h];
        for (int i = 0; i < all.length; i++) {
            int[] square = Told.square(selection, w, i % w, i / w, n);
            int sum = 0;
            int least = i % w < n || i / w < n || i % w + n >= w || i / w + n >= h ? 0 : 255;
            int most = 0;
            for (int v : square) {
                sum += v;
                least = Math.min(least, v);
                most = Math.max(most, v);
            }
            int m = square.length;
            all[i] = how == 0 ? 255 - selection[i] : how == 1 ? most : how == 2 ? least : (sum + m / 2) / m;
        }
        return all;
    }

    int selected(int x, int y) {
        place(x, y);
        return at(selection, x, y);
    }

    // ---- Settings

    void front(int colour) {
        front = colour;
    }

    void brush(int size, int hard, int spacing, int flow, int opacity) {
        range(size, 1, 64);
        range(hard, 0, 255);
        range(spacing, 2, 64);
        range(flow, 0, 255);
        range(opacity, 0, 255);
        brush = new int[] {size, hard, spacing, flow, opacity};
    }

    void source(int cx, int cy) {
        range(cx, -100, 100);
        range(cy, -100, 100);
        source = new int[] {cx, cy};
    }

    int point(int x, int y, int pressure) {
        range(x, -200, 200);
        range(y, -200, 200);
        range(pressure, 0, 255);
        full(points.length == 60);
        points = with(points, x, y, pressure);
        return points.length / 3;
    }

    int curve(int k, int c, int x, int y) {
        range(k, 0, 7);
        range(c, 0, 3);
        range(x, -1, 255);
        TreeMap<Integer, Integer> curve = curves.get(4 * k + c);
        if (x == -1) {
            curve.clear();
        } else {
            range(y, 0, 255);
            full(curve.size() == 8 && !curve.containsKey(x));
            curve.put(x, y);
        }
        kept.clear();
        return curve.size();
    }

    void kernel(int i, int v) {
        range(i, 0, 10);
        range(v, i < 9 ? -100 : i == 9 ? 1 : -255, i < 9 ? 100 : i == 9 ? 1000 : 255);
        kernel[i] = v;
        kept.clear();
    }

    void profile(int p, int i, int v) {
        range(p, 0, 3);
        range(i, 0, 9);
        range(v, i < 9 ? -4096 : 0, i < 9 ? 4096 : 2);
        profiles[p][i] = v;
    }

    void develop(int what, int v) {
        range(what, 0, 3);
        range(v, 0, what == 0 ? 4095 : 1024);
        frame[what] = v;
    }

    int step(int p, int kind, int x, int y) {
        range(p, 0, 7);
        range(kind, 0, 3);
        List<int[]> path = paths.get(p);
        if (kind == 3) {
            path.clear();
            return 0;
        }
        range(x, -2000, 2000);
        range(y, -2000, 2000);
        boolean behindControl = !path.isEmpty() && path.get(path.size() - 1)[0] == 2;
        refuse(kind == 2 && (path.isEmpty() || path.size() == 39));
        refuse(kind != 1 && behindControl);
        full(path.size() == 40);
        path.add(new int[] {kind, x, y});
        return path.size();
    }

    void glyph(int b, int p, int advance) {
        range(b, 0, 255);
        range(p, -1, 7);
        range(advance, 0, 800);
        glyphs[b] = p < 0 ? null : new int[] {p, advance};
    }

    // ---- What is told

    int see(int x, int y) {
        place(x, y);
        int tile = y / 8 * 3 + x / 8;
        if (!kept.containsKey(tile)) {
            kept.put(tile, seen());
            worked++;
        }
        return at(kept.get(tile), x, y);
    }

    int zoomed(int z, int x, int y) {
        range(z, 1, 3);
        int[] there = {};
        int[] seen = seen();
        for (int i = 0; i < w * h; i++) {
            if (i % w >> z == x && i / w >> z == y) {
                there = with(there, seen[i]);
            }
        }
        missing(there.length == 0);
        return Told.mean(there.length, there);
    }

    int hash() {
        return Check.hash(seen());
    }

    int pixel(int l, int x, int y) {
        int[] pixels = pixelsOrMissing(l).pixels;
        place(x, y);
        return at(pixels, x, y);
    }

    int masked(int l, int x, int y) {
        int[] mask = known(l).mask;
        place(x, y);
        return mask == null ? -1 : at(mask, x, y);
    }

    int about(int l, int what) {
        range(what, 0, 15);
        Sheet x = known(l);
        int place = now.of(x.parent).indexOf(l);
        int[] all = {x.kind, x.parent, place, x.opacity, x.mode, x.shown, x.clipped, x.dx, x.dy, among(l), x.p, x.q};
        return with(all, x.ramp)[what];
    }

    int made(int l) {
        out = PngFile.made(w, h, l == -1 ? seen() : pixelsOrMissing(l).pixels);
        return out.length;
    }

    long octets(int i) {
        range(i, -1, 8000);
        long all = i < 0 ? out.length : 0;
        for (int k = i; k < i + 8 && i >= 0; k++) {
            all = all << 8 | (k < out.length ? out[k] & 255 : 0);
        }
        return all;
    }

    int count(int what) {
        int[] all = {w, h, now.sheets.size(), past.size(), undone.size(), worked, kept.size(), points.length / 3, input.length,
            reaches()};
        return what < 0 || what > 9 ? -1 : all[what];
    }
}
