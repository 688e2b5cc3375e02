import java.util.Arrays;
import java.util.Random;

/** Boundary cases of FILTERS, KERNEL and CURVES: promises 19, 33 and 34. */
public final class EdgesFilterTest {
    private static final int[] LEAST = {1, 0, 0, 0, 0, 2, 0, 2, 0, 0, 0, 0, 0, 0};
    private static final int[] MOST = {4, 255, 0, 0, 0, 8, 255, 64, 0, 255, 0, 0, 255, 255};
    private static final int[] KERNEL = {0, 0, 0, 0, 1, 0, 0, 0, 0, 1, 0};

    public static void main(String[] args) {
        Check.sentence("0 soft (n 1 .. 4; REACH n): of the square: a the sum of A, A = (a + m / 2) / m, m = (2 n + 1)^2, R = (sum of R A + "
            + "a / 2) / a .. (a 0: all 0).", EdgesFilterTest::soft);
        Check.sentence("1 sharp (n 0 .. 255; REACH 1): each of R, G, B: CLIP(c + ((c - q) n >> 6)), q that of soft by 1; A as it is.",
            EdgesFilterTest::sharp);
        Check.sentence("2 middle (REACH 1): the 5th of the nine, each sample for itself.", EdgesFilterTest::middle);
        Check.sentence("v = at most 255 of |g| + |h|: R, G, B v; A as it is.", EdgesFilterTest::edges);
        Check.sentence("4 raised (REACH 1): each of R, G, B: CLIP(128 + that right below - that left above).", EdgesFilterTest::raised);
        Check.sentence("5 blocks (n 2 .. 8; REACH n - 1): that of the place (x / n n, y / n n).", EdgesFilterTest::blocks);
        Check.sentence("6 two (n 0 .. 255): Y >= n: R, G, B 255, else 0.", EdgesFilterTest::two);
        Check.sentence("7 steps (n 2 .. 64): each of R, G, B: q = (c (n - 1) + 127) / 255: (q 255 + (n - 1) / 2) / (n - 1).",
            EdgesFilterTest::steps);
        Check.sentence("8 turned: 255 less, of R, G, B.", () -> dueFilter(8, 0));
        Check.sentence("d = (h >>> 24) % (2 (n >> 3) + 1) - (n >> 3): CLIP(c + d) of R, G, B.", EdgesFilterTest::grain);
        Check.sentence("10 own (REACH 1): of the nine by KERNEL's nine numbers (row by row) the sum of products, / DIVISOR, + OFFSET, CLIP, "
            + "of R, G, B.", EdgesFilterTest::own);
        Check.sentence("11 grey: Y.", () -> dueFilter(11, 0));
        Check.sentence("d 0: as it is; h (0 .. 1535):", EdgesFilterTest::hueOfGrey);
        Check.sentence("+ 6 n, modulo 1536 (0 or more);", EdgesFilterTest::hue);
        Check.sentence("13 strong (n 0 .. 255): CLIP(Y + ((c - Y) n >> 6)) of R, G, B.", EdgesFilterTest::strong);
        Check.sentence("FILTERS of a picture (kind, amount n), places outside are the nearest:", EdgesFilterTest::smallPictures);
        Check.sentence("(Those without n: 0.) REACH is 0 where none is told.", EdgesFilterTest::amounts);
        Check.sentence("A FILTER of a LAYER (EDIT 14): its own pixels become MIX(old, new, SELECTION) (at the shifted place).",
            EdgesFilterTest::withinSelection);
        Check.sentence("A FILTER on PIXELS: how many pixels changed. Bad (KIND, FILTER, amount), missing.", EdgesFilterTest::filter);
        Check.sentence("KERNEL's number i (0 .. 8; -100 .. 100), DIVISOR (9; 1 .. 1,000), OFFSET (10; -255 .. 255). Bad.",
            EdgesFilterTest::kernel);
        Check.sentence("points (x, y), 0 .. 255, at most 8 for each channel (0 R, 1 G, 2 B, 3 all), one for each x;",
            EdgesFilterTest::curvePoints);
        Check.sentence("value at v: without points v; before the first, behind the last: its y; between (x0, y0) and (x1, y1): "
            + "y0 + (y1 - y0)(v - x0) / (x1 - x0).", EdgesFilterTest::curveValues);
        Check.sentence("A COLOUR by it: each of R, G, B by its channel, then by all; A as it is.", EdgesFilterTest::curveChannels);
        Check.sentence("CURVE k's channel c gets a point (in place of one at x); x -1: its points go (y isn't looked at): how many it has. "
            + "Bad; FULL.", EdgesFilterTest::curve);
        Check.done("EdgesFilterTest");
    }

    private static int[] random(int seed, int many) {
        Random r = new Random(seed);
        int[] ends = {0, 1, 127, 128, 254, 255};
        int[] all = new int[many];
        for (int i = 0; i < many; i++) {
            int[] v = new int[4];
            for (int k = 0; k < 4; k++) {
                v[k] = r.nextInt(3) == 0 ? ends[r.nextInt(6)] : r.nextInt(256);
            }
            all[i] = Told.colour(v[0], v[1], v[2], v[3]);
        }
        return all;
    }

    /** Some picture by a FILTER, of PIXELS and as a LIVE one. */
    private static void dueFilter(int kind, int n, int[] kernel, int w, int... colours) {
        String what = "FILTER " + kind + " with " + n + " of " + w + " by " + colours.length / w;
        int[] due = Told.filter(kind, n, colours, w, kernel);
        PictureStudio s = Check.studio(w, colours.length / w);
        for (int i = 0; i < 11; i++) {
            s.kernel(i, kernel[i]);
        }
        Check.picture(s, colours);
        int many = 0;
        for (int i = 0; i < due.length; i++) {
            many += due[i] == colours[i] ? 0 : 1;
        }
        Check.due(what + ": how many changed", s.filter(0, kind, n), many);
        for (int i = 0; i < due.length && i < 120; i++) {
            Check.dueColour(what + " at " + i, s.pixel(0, i % w, i / w), due[i]);
        }
        int[] there = due.clone();
        for (int i = 0; i < there.length; i++) {
            there[i] = there[i] >>> 24 == 0 ? 0 : there[i];
        }
        Check.due(what + ": what is seen", s.hash(), Check.hash(there));
        s.undo();
        s.layer(5, -1, 1);
        s.colours(1, kind, n);
        int[] seen = colours.clone();
        for (int i = 0; i < seen.length; i++) {
            seen[i] = seen[i] >>> 24 == 0 ? 0 : seen[i];
        }
        Check.due(what + ", LIVE", s.hash(), Check.hash(Told.filter(kind, n, seen, w, kernel)));
    }

    private static void dueFilter(int kind, int n) {
        dueFilter(kind, n, KERNEL, 7, random(kind * 31 + n, 42));
    }

    private static void soft() {
        for (int n = 1; n <= 4; n++) {
            dueFilter(0, n);
            dueFilter(0, n, KERNEL, 1, 0xFF102030);
            dueFilter(0, n, KERNEL, 24, random(n, 576));
        }
        dueFilter(0, 1, KERNEL, 3, new int[9]);
        int[] faint = new int[9];
        faint[4] = 0x04FF8001;
        dueFilter(0, 1, KERNEL, 3, faint);
        faint[4] = 0x05FF8001;
        dueFilter(0, 1, KERNEL, 3, faint);
        faint[4] = 0x01FF8001;
        PictureStudio s = Check.studio(3, 3);
        Check.picture(s, faint);
        s.filter(0, 0, 1);
        Check.dueColour("a 1: A (1 + 4) / 9 is 0, R as it is", s.pixel(0, 0, 0), 0x00FF8001);
        Arrays.fill(faint, 0x00FFFFFF);
        PictureStudio t = Check.studio(3, 3);
        Check.picture(t, faint);
        t.filter(0, 0, 1);
        Check.duePixels("a 0: all 0", t, 0, new int[9]);
        Check.bad("n 0", () -> t.filter(0, 0, 0));
        Check.bad("n 5", () -> t.filter(0, 0, 5));
    }

    private static void sharp() {
        for (int n : new int[] {0, 1, 63, 64, 65, 128, 255}) {
            dueFilter(1, n);
        }
        PictureStudio s = Check.studio(3, 1);
        Check.picture(s, 0x80000000, 0xFF646464, 0x01FFFFFF);
        Check.due("n 0 leaves all", s.filter(0, 1, 0), 0);
        s.filter(0, 1, 255);
        Check.due("A as it is", s.pixel(0, 0, 0) >>> 24, 128);
        Check.due("A as it is", s.pixel(0, 2, 0) >>> 24, 1);
    }

    private static void middle() {
        for (int seed = 0; seed < 6; seed++) {
            dueFilter(2, 0, KERNEL, 6, random(seed, 30));
        }
        PictureStudio s = Check.studio(3, 3);
        Check.picture(s, 0x09000001, 0x08000002, 0x07000003, 0x06000004, 0x05000009, 0x04000008, 0x03000007, 0x02000006, 0x01000005);
        s.filter(0, 2, 0);
        Check.dueColour("the 5th of nine", s.pixel(0, 1, 1), 0x05000005);
    }

    private static void edges() {
        dueFilter(3, 0);
        PictureStudio s = Check.studio(3, 3);
        int[] colours = new int[9];
        for (int i = 0; i < 9; i++) {
            colours[i] = Check.grey(i % 3 == 2 ? 63 : 0);
        }
        Check.picture(s, colours);
        s.filter(0, 3, 0);
        Check.dueColour("4 63", s.pixel(0, 1, 1), Check.grey(252));
        PictureStudio t = Check.studio(3, 3);
        for (int i = 0; i < 9; i++) {
            colours[i] = Check.grey(i % 3 == 2 ? 0 : 64) & 0x01FFFFFF;
        }
        Check.picture(t, colours);
        t.filter(0, 3, 0);
        Check.dueColour("at most 255 of |-256|", t.pixel(0, 1, 1), 0x01FFFFFF);
        for (int i = 0; i < 9; i++) {
            colours[i] = Check.grey(i < 3 ? 200 : 0);
        }
        dueFilter(3, 0, KERNEL, 3, colours);
    }

    private static void raised() {
        dueFilter(4, 0);
        PictureStudio s = Check.studio(3, 3);
        Check.picture(s, 0xFF000102, 0, 0, 0, 0x33000000, 0, 0, 0, 0xFF7F8081);
        s.filter(0, 4, 0);
        Check.dueColour("128 + 127 is 255, 128 + 128 - 1 is 255, 128 + 129 - 2 is 255", s.pixel(0, 1, 1), 0x33FFFFFF);
        PictureStudio t = Check.studio(3, 3);
        Check.picture(t, 0xFF7F8081, 0, 0, 0, 0x33000000, 0, 0, 0, 0xFF000000);
        t.filter(0, 4, 0);
        Check.dueColour("128 - 127, 128 - 128, at least 0", t.pixel(0, 1, 1), 0x33010000);
    }

    private static void blocks() {
        for (int n = 2; n <= 8; n++) {
            dueFilter(5, n);
            dueFilter(5, n, KERNEL, 24, random(n, 576));
        }
    }

    private static void two() {
        for (int n : new int[] {0, 1, 127, 128, 254, 255}) {
            dueFilter(6, n);
            PictureStudio s = Check.studio(3, 1);
            Check.picture(s, Check.grey(Math.max(0, n - 1)), Check.grey(n), Check.grey(Math.min(255, n + 1)));
            s.filter(0, 6, n);
            Check.dueColour("Y below " + n, s.pixel(0, 0, 0), Check.grey(n == 0 ? 255 : 0));
            Check.dueColour("Y " + n, s.pixel(0, 1, 0), Check.grey(255));
            Check.dueColour("Y above", s.pixel(0, 2, 0), Check.grey(255));
        }
    }

    private static void steps() {
        int[] greys = new int[256];
        for (int v = 0; v < 256; v++) {
            greys[v] = Told.colour(255, v, 255 - v, v * 7 & 255);
        }
        for (int n : new int[] {2, 3, 4, 5, 16, 63, 64}) {
            dueFilter(7, n, KERNEL, 16, greys);
        }
        PictureStudio s = Check.studio(2, 1);
        Check.picture(s, 0xFF007F80, 0xFFFFFFFF);
        s.filter(0, 7, 2);
        Check.duePixels("two steps: 0 and 255", s, 0, 0xFF0000FF, 0xFFFFFFFF);
    }

    private static void grain() {
        for (int n : new int[] {0, 7, 8, 15, 16, 100, 254, 255}) {
            dueFilter(9, n);
            dueFilter(9, n, KERNEL, 24, random(n, 576));
        }
        PictureStudio s = Check.canvas(24, 24);
        s.fill(0, 0);
        Check.due("n 0", s.filter(0, 9, 0), 0);
        Check.due("n 7: n >> 3 is 0", s.filter(0, 9, 7), 0);
        int many = 0;
        for (int i = 0; i < 576; i++) {
            many += Told.grain(i % 24, i / 24, 8) > 0 ? 1 : 0;
        }
        Check.due("n 8: those that rise from 0", s.filter(0, 9, 8), many);
    }

    private static void own() {
        int[][] kernels = {{100, 100, 100, 100, 100, 100, 100, 100, 100, 1, 0}, {-100, -100, -100, -100, -100, -100, -100, -100, -100, 1, 255},
            {1, 2, 3, 4, 5, 6, 7, 8, 9, 45, 0}, {-1, -1, -1, -1, 9, -1, -1, -1, -1, 1, 0}, {100, 0, 0, 0, 0, 0, 0, 0, -100, 1000, 128},
            {1, 0, -1, 2, 0, -2, 1, 0, -1, 3, -1}, {0, 0, 0, 0, 0, 0, 0, 0, 0, 1, -255}, {100, 100, 100, 100, 100, 100, 100, 100, 100, 1000, -255}};
        for (int i = 0; i < kernels.length; i++) {
            dueFilter(10, 0, kernels[i], 6, random(i, 30));
        }
        for (int i = 0; i < 9; i++) {
            int[] one = new int[11];
            one[i] = 1;
            one[9] = 1;
            dueFilter(10, 0, one, 4, random(i, 16));
        }
        PictureStudio s = Check.canvas(1, 1);
        Check.dot(s, 0, 0, 0, 0xFF070605);
        s.kernel(4, -1);
        s.kernel(9, 4);
        s.kernel(10, 10);
        s.filter(0, 10, 0);
        Check.dueColour("-7 / 4 is cut to -1, -5 / 4, too", s.pixel(0, 0, 0), 0xFF090909);
    }

    private static void hueOfGrey() {
        for (int v : new int[] {0, 1, 128, 255}) {
            PictureStudio s = Check.canvas(1, 1);
            Check.dot(s, 0, 0, 0, Check.grey(v) & 0x40FFFFFF);
            Check.due("d 0", s.filter(0, 12, 200), 0);
        }
        dueFilter(12, 0, KERNEL, 3, 0xFF808081, 0xFF808180, 0xFF818080, 0xFF818180, 0xFF808181, 0xFF818081);
    }

    private static void hue() {
        for (int n : new int[] {0, 1, 42, 43, 85, 127, 128, 170, 213, 254, 255}) {
            dueFilter(12, n);
            dueFilter(12, n, KERNEL, 6, 0xFFFF0000, 0xFF00FF00, 0xFF0000FF, 0xFFFFFF00, 0xFF00FFFF, 0xFFFF00FF, 0xFFFF0001, 0xFFFF0100,
                0xFF01FF00, 0xFF00FF01, 0xFF0001FF, 0xFF0100FF);
        }
        for (int seed = 0; seed < 12; seed++) {
            dueFilter(12, seed * 23, KERNEL, 12, random(200 + seed, 120));
        }
        PictureStudio s = Check.canvas(1, 1);
        Check.dot(s, 0, 0, 0, 0xFFFF0002);
        s.filter(0, 12, 0);
        // 256 (0 - 2) / 255 is -2, so 1534: k 5, f 254: 255 - 255 254 / 256 is 2
        Check.dueColour("below 0", s.pixel(0, 0, 0), 0xFFFF0002);
        Check.dot(s, 0, 0, 0, 0xFFFF00FF);
        s.filter(0, 12, 43);
        // -256 + 258 is 2: k 0, f 2: up 255 2 / 256 is 1
        Check.dueColour("past 1535", s.pixel(0, 0, 0), 0xFFFF0100);
    }

    private static void strong() {
        for (int n : new int[] {0, 1, 63, 64, 65, 128, 255}) {
            dueFilter(13, n);
        }
        PictureStudio s = Check.canvas(1, 1);
        Check.dot(s, 0, 0, 0, 0x40C86432);
        Check.due("64 leaves all", s.filter(0, 13, 64), 0);
    }

    private static void smallPictures() {
        int[][] sizes = {{1, 1}, {1, 5}, {5, 1}, {2, 2}};
        for (int[] size : sizes) {
            for (int kind = 0; kind < 14; kind++) {
                for (int n : new int[] {LEAST[kind], MOST[kind]}) {
                    dueFilter(kind, n, KERNEL, size[0], random(kind + size[0], size[0] * size[1]));
                }
            }
        }
        for (int kind = 0; kind < 14; kind++) {
            dueFilter(kind, MOST[kind], KERNEL, 24, random(kind, 576));
        }
    }

    private static void amounts() {
        int[] least = {1, 1, 1, 1, 1, 1, 0, 0, 0, 0, 1, 0, 0, 0};
        int[] most = {4, 1, 1, 1, 1, 7, 0, 0, 0, 0, 1, 0, 0, 0};
        PictureStudio s = Check.canvas(1, 1);
        s.layer(5, -1, 1);
        for (int i = 0; i < 14; i++) {
            int kind = i;
            Check.ends("amount of FILTER " + kind, LEAST[i], MOST[i], v -> s.filter(0, kind, v));
            s.colours(1, kind, LEAST[i]);
            Check.due("the least REACH of FILTER " + kind, s.count(9), least[i]);
            s.colours(1, kind, MOST[i]);
            Check.due("the greatest REACH of FILTER " + kind, s.count(9), most[i]);
        }
    }

    private static void withinSelection() {
        int[] colours = random(77, 12);
        int[] turned = Told.filter(8, 0, colours, 4, KERNEL);
        int[] values = {0, 1, 2, 126, 127, 128, 129, 200, 253, 254, 255, 64};
        int[][] shifts = {{0, 0}, {1, 0}, {0, 1}, {-1, -1}, {3, 2}, {4, 0}, {0, -3}};
        for (int[] shift : shifts) {
            PictureStudio s = Check.studio(4, 3);
            Check.picture(s, colours);
            int[] alphas = new int[12];
            for (int i = 0; i < 12; i++) {
                alphas[i] = values[i] << 24;
            }
            s.select(5, 0, Check.picture(s, alphas), 0, 0, 0);
            s.set(0, 4, shift[0]);
            s.set(0, 5, shift[1]);
            s.filter(0, 8, 0);
            for (int i = 0; i < 12; i++) {
                int x = i % 4 + shift[0];
                int y = i / 4 + shift[1];
                int t = x >= 0 && x < 4 && y >= 0 && y < 3 ? values[y * 4 + x] : 0;
                Check.dueColour("shifted by " + shift[0] + ", " + shift[1], s.pixel(0, i % 4, i / 4),
                    Told.mixed(colours[i], turned[i], t));
            }
        }
    }

    private static void filter() {
        PictureStudio s = Check.canvas(2, 2);
        for (int kind = 1; kind < 6; kind++) {
            int l = s.layer(kind, -1, 0);
            Check.bad("KIND " + kind, () -> s.filter(l, 8, 0));
        }
        for (int l : new int[] {-1, 6, 29, 30, Integer.MIN_VALUE, Integer.MAX_VALUE}) {
            Check.missing("LAYER " + l, () -> s.filter(l, 8, 0));
        }
        Check.bad("FILTER -1", () -> s.filter(0, -1, 0));
        Check.bad("FILTER 14", () -> s.filter(0, 14, 0));
        Check.bad("amount 1 of FILTER 8", () -> s.filter(0, 8, 1));
        Check.bad("amount -1 of FILTER 8", () -> s.filter(0, 8, -1));
        Check.due("no EDIT", s.count(3), 6);
        Check.due("all are turned", s.filter(0, 8, 0), 4);
        Check.due("an EDIT", s.count(3), 7);
    }

    private static void kernel() {
        PictureStudio s = Check.studio(1, 1);
        for (int i = 0; i < 9; i++) {
            int k = i;
            Check.ends("number " + i, -100, 100, v -> s.kernel(k, v));
        }
        Check.ends("DIVISOR", 1, 1000, v -> s.kernel(9, v));
        Check.ends("OFFSET", -255, 255, v -> s.kernel(10, v));
        Check.ends("i", 0, 10, v -> s.kernel(v, 1));
        Check.due("no EDIT", s.count(3), 0);
    }

    // ---- CURVES

    private static void curvePoints() {
        PictureStudio s = Check.studio(1, 1);
        Check.ends("CURVE", 0, 7, v -> s.curve(v, 0, 0, 0));
        Check.ends("channel", 0, 3, v -> s.curve(0, v, 0, 0));
        Check.ends("x", -1, 255, v -> s.curve(1, 0, v, 0));
        Check.ends("y", 0, 255, v -> s.curve(1, 1, 0, v));
        PictureStudio t = Check.studio(1, 1);
        for (int k = 0; k < 8; k += 7) {
            for (int c = 0; c < 4; c++) {
                for (int i = 0; i < 8; i++) {
                    Check.due("how many", t.curve(k, c, i * 36, 255 - i), i + 1);
                }
                int curve = k;
                int channel = c;
                Check.full("a ninth", () -> t.curve(curve, channel, 1, 0));
                Check.due("one for each x", t.curve(k, c, 252, 9), 8);
                Check.due("one for each x", t.curve(k, c, 0, 9), 8);
            }
        }
    }

    /** R of a grey by the points of channel R, given in any order. */
    private static int bent(int v, int... points) {
        PictureStudio s = Check.studio(1, 1);
        s.layer(2, -1, 0);
        s.colours(0, Check.grey(v), 0);
        s.layer(4, -1, 1);
        for (int i = 0; i < points.length; i += 2) {
            s.curve(0, 0, points[i], points[i + 1]);
        }
        return Told.sample(s.see(0, 0), 0);
    }

    private static void curveValues() {
        for (int v : new int[] {0, 1, 254, 255}) {
            Check.due("without points v", bent(v), v);
            Check.due("one point: its y", bent(v, 100, 7), 7);
            Check.due("one point at the end: its y", bent(v, 255, 9), 9);
            Check.due("one point at the beginning: its y", bent(v, 0, 9), 9);
        }
        int[] points = {100, 200, 50, 10, 150, 0};
        int[][] dues = {{0, 10}, {49, 10}, {50, 10}, {51, 13}, {99, 196}, {100, 200}, {101, 196}, {149, 4}, {150, 0}, {151, 0}, {255, 0}};
        for (int[] due : dues) {
            Check.due("value at " + due[0], bent(due[0], points), due[1]);
        }
        Check.due("0 + 255 128 / 255", bent(128, 0, 0, 255, 255), 128);
        Check.due("255 - 255 128 / 255", bent(128, 0, 255, 255, 0), 127);
        Check.due("points side by side", bent(11, 10, 1, 11, 99, 12, 3), 99);
        Check.due("cut towards 0 when it falls", bent(1, 0, 10, 3, 0), 7);
        Check.due("cut towards 0 when it rises", bent(1, 0, 0, 3, 5), 1);
        Random r = new Random(31);
        for (int i = 0; i < 120; i++) {
            int[] given = new int[2 * (1 + r.nextInt(8))];
            int[] y = new int[256];
            Arrays.fill(y, -1);
            for (int k = 0; k < given.length; k += 2) {
                given[k] = r.nextInt(256);
                given[k + 1] = r.nextInt(256);
                y[given[k]] = given[k + 1];
            }
            int v = r.nextInt(256);
            Check.due("value at " + v + " of " + Arrays.toString(given), bent(v, given), between(y, v));
        }
    }

    private static int between(int[] y, int v) {
        int x0 = v;
        while (x0 >= 0 && y[x0] < 0) {
            x0--;
        }
        int x1 = v;
        while (x1 < 256 && y[x1] < 0) {
            x1++;
        }
        if (x0 < 0 || x1 > 255 || x0 == x1) {
            return x0 < 0 ? y[x1] : y[x0];
        }
        return y[x0] + (y[x1] - y[x0]) * (v - x0) / (x1 - x0);
    }

    private static void curveChannels() {
        for (int k = 0; k < 8; k++) {
            PictureStudio s = Check.studio(1, 1);
            s.layer(2, -1, 0);
            s.colours(0, 0x40102030, 0);
            s.layer(4, -1, 1);
            s.colours(1, k, 0);
            s.curve(k, 0, 0, 100);
            Check.dueColour("R alone", s.see(0, 0), 0x40642030);
            s.curve(k, 1, 0, 101);
            Check.dueColour("G, too", s.see(0, 0), 0x40646530);
            s.curve(k, 2, 0, 102);
            Check.dueColour("B, too", s.see(0, 0), 0x40646566);
            s.curve(k, 3, 100, 0);
            s.curve(k, 3, 102, 200);
            Check.dueColour("then by all", s.see(0, 0), 0x400064C8);
            s.colours(1, (k + 1) % 8, 0);
            Check.dueColour("another CURVE has its own", s.see(0, 0), 0x40102030);
        }
    }

    private static void curve() {
        PictureStudio s = Check.studio(1, 1);
        s.layer(2, -1, 0);
        s.colours(0, Check.grey(100), 0);
        s.layer(4, -1, 1);
        Check.due("none go", s.curve(0, 3, -1, 0), 0);
        s.curve(0, 3, 50, 10);
        s.curve(0, 3, 200, 220);
        Check.due("y isn't looked at", s.curve(0, 3, -1, Integer.MIN_VALUE), 0);
        Check.due("y isn't looked at", s.curve(0, 3, -1, 256), 0);
        Check.dueColour("they are gone", s.see(0, 0), Check.grey(100));
        Check.due("one again", s.curve(0, 3, 50, 10), 1);
        Check.dueColour("nothing of those that went", s.see(0, 0), Check.grey(10));
        Check.due("in place of it", s.curve(0, 3, 50, 11), 1);
        Check.dueColour("in place of it", s.see(0, 0), Check.grey(11));
        for (int i = 2; i <= 8; i++) {
            s.curve(0, 3, 100 + i, 0);
        }
        Check.full("FULL", () -> s.curve(0, 3, 100, 0));
        Check.due("in place of one when it is FULL", s.curve(0, 3, 50, 12), 8);
        Check.bad("x -2", () -> s.curve(0, 3, -2, 0));
        Check.bad("CURVE 8 ahead of FULL", () -> s.curve(8, 3, 100, 0));
        Check.due("all go", s.curve(0, 3, -1, 0), 0);
        Check.due("no EDIT", s.count(3), 3);
    }
}
