import java.util.Arrays;
import java.util.Random;

/** Boundary cases of PROFILES, FEW colours and RAW frames: promises 22 to 24, 35 and 36. */
public final class EdgesColoursTest {
    private static final int[] ONE = {1024, 0, 0, 0, 1024, 0, 0, 0, 1024, 0};

    public static void main(String[] args) {
        Check.sentence("PROFILES 0 .. 3: nine numbers (rows; -4,096 .. 4,096; 1,024 is 1; at first 1,024 0 0, 0 1,024 0, 0 0 1,024) and a "
            + "sort:", EdgesColoursTest::profilesAtFirst);
        Check.sentence("0 straight: L(c) = 4095 c / 255; 1 by squares: L(c) = 4095 c c / 65025; 2 by both: (L0 + 3 L1) / 4.",
            EdgesColoursTest::sorts);
        Check.sentence("(longs, at the end cut), brought to 0 .. 4095; then the least c of 0 .. 255 with |L(c) - v| least by Q's sort.",
            EdgesColoursTest::converted);
        Check.sentence("Determinant 0: REFUSED.", EdgesColoursTest::determinant);
        Check.sentence("PIXELS' COLOURS from PROFILE p to q (0 .. 3). Bad (KIND, too), missing, REFUSED.", EdgesColoursTest::convert);
        Check.sentence("PROFILE p's number i (0 .. 8), its sort (9; 0 .. 2). Bad.", EdgesColoursTest::profile);
        Check.sentence("FEW colours: n (2 .. 16) of a LAYER's pixels with A not 0:", EdgesColoursTest::fewEnds);
        Check.sentence("as long as there are fewer than n: the BOX (with two different colours in it) with the greatest length of a side "
            + "(greatest less least of a channel; of equal ones the first BOX, then R, G, B) is cut:", EdgesColoursTest::longestSide);
        Check.sentence("the first half (h = how many / 2; h goes on as long as the pixel at h has the channel's value of that at h - 1, and "
            + "if so to the end, back to before those that have it) stay, the others are a new BOX behind.", EdgesColoursTest::cuts);
        Check.sentence("None that can be cut: so many. Each BOX's colour: the mean of each channel, (sum + k / 2) / k.",
            EdgesColoursTest::means);
        Check.sentence("c + its errors, CLIP; the nearest of the colours (least sum of squares; the first);", EdgesColoursTest::nearest);
        Check.sentence("goes to right 7 e / 16, left below 3, below 5, right below 1 (each / 16 cut) among pixels there are.",
            EdgesColoursTest::dithered);
        Check.sentence("A stays. Pixels with A 0 are left out (and get no errors).", EdgesColoursTest::leftOut);
        Check.sentence("PIXELS by FEW colours: how many there are. Bad (KIND, n), missing.", EdgesColoursTest::few);
        Check.sentence("W, H bytes pairs (high first, 12 bits: above 4095: FAULT 2), row by row, just so many (else FAULT 1, at INPUT's "
            + "length):", EdgesColoursTest::frames);
        Check.sentence("v = at least 0 of (raw - black) gain / 64 (gains of R, G, B), brought to 0 .. 4095.", EdgesColoursTest::developed);
        Check.sentence("the mean ((sum + k / 2) / k) of those of that colour among the eight around that are there (none: 0). Then c = v >> 4; "
            + "A 255.", EdgesColoursTest::around);
        Check.sentence("A RAW frame as a new LAYER of PIXELS, the highest of the DOCUMENT: its number. FULL, FAULT.", EdgesColoursTest::raw);
        Check.sentence("Raw's what 0 black (0 .. 4,095), 1, 2, 3 gains (0 .. 1,024). Bad.", EdgesColoursTest::develop);
        Check.done("EdgesColoursTest");
    }

    // ---- PROFILES

    /** Each value of a sample once, in three orders. */
    private static int[] allValues() {
        int[] all = new int[256];
        for (int v = 0; v < 256; v++) {
            all[v] = Told.colour(255 - v % 200, v, v * 5 & 255, 255 - v);
        }
        return all;
    }

    private static void give(PictureStudio s, int p, int[] numbers) {
        for (int i = 0; i < 10; i++) {
            s.profile(p, i, numbers[i]);
        }
    }

    private static void dueConverted(String what, PictureStudio s, int p, int[] told, int q, int[] toldQ, int... colours) {
        Check.picture(s, colours);
        s.convert(0, p, q);
        int[] due = new int[colours.length];
        for (int i = 0; i < due.length; i++) {
            due[i] = Told.converted(colours[i], told, toldQ);
        }
        Check.due(what, s.hash(), Check.hash(due));
        for (int i = 0; i < due.length; i += 7) {
            Check.dueColour(what + " at " + i, s.pixel(0, i % 16, i / 16), due[i]);
        }
    }

    private static void profilesAtFirst() {
        int[][] others = {{700, 0, 0, 0, 1500, 0, 0, 0, 3000, 0}, {4096, 0, 0, 0, 4095, 0, 0, 0, 1023, 1}, {1001, 3, 0, 0, 1111, 7, 9, 0, 1777, 2},
            {1300, 0, 0, 0, 1100, 0, 0, 0, 900, 0}};
        for (int[] other : others) {
            for (int p = 0; p < 4; p++) {
                PictureStudio s = Check.studio(16, 16);
                give(s, (p + 1) % 4, other);
                dueConverted("from PROFILE " + p + " as it is at first", s, p, ONE, (p + 1) % 4, other, allValues());
                PictureStudio t = Check.studio(16, 16);
                give(t, (p + 1) % 4, other);
                dueConverted("to PROFILE " + p + " as it is at first", t, (p + 1) % 4, other, p, ONE, allValues());
            }
        }
        PictureStudio s = Check.studio(16, 16);
        dueConverted("there and back", s, 0, ONE, 3, ONE, allValues());
        Check.due("all as it was", s.hash(), Check.hash(allValues()));
    }

    private static void sorts() {
        for (int sort = 0; sort < 3; sort++) {
            for (int to = 0; to < 3; to++) {
                for (int scale : new int[] {1024, 1000, 1048, 512, 4096}) {
                    int[] p = ONE.clone();
                    int[] q = {scale, 0, 0, 0, scale, 0, 0, 0, scale, to};
                    p[9] = sort;
                    PictureStudio s = Check.studio(16, 16);
                    give(s, 0, p);
                    give(s, 1, q);
                    dueConverted("sort " + sort + " to " + to + " by " + scale, s, 0, p, 1, q, allValues());
                }
            }
        }
    }

    private static void converted() {
        Random r = new Random(41);
        for (int i = 0; i < 40; i++) {
            int[] p = new int[10];
            int[] q = new int[10];
            for (int k = 0; k < 9; k++) {
                p[k] = i < 10 ? r.nextInt(8193) - 4096 : (k % 4 == 0 ? 1024 : 0) + r.nextInt(401) - 200;
                q[k] = i < 10 ? r.nextInt(8193) - 4096 : (k % 4 == 0 ? 1024 : 0) + r.nextInt(401) - 200;
            }
            p[9] = r.nextInt(3);
            q[9] = r.nextInt(3);
            int[] colours = new int[112];
            for (int k = 0; k < colours.length; k++) {
                colours[k] = r.nextInt() | 0x01000000;
            }
            PictureStudio s = Check.studio(16, 7);
            give(s, 2, p);
            give(s, 3, q);
            dueConverted("from " + Arrays.toString(p) + " to " + Arrays.toString(q), s, 2, p, 3, q, colours);
        }
        int[] far = {4096, 4096, 4096, 4096, -4096, 4096, -4096, 4096, 4096, 0};
        int[] small = {1, 0, 0, 0, 1, 0, 0, 0, 1, 0};
        PictureStudio s = Check.studio(16, 16);
        give(s, 0, far);
        give(s, 1, small);
        dueConverted("numbers as far as may be: longs", s, 0, far, 1, small, allValues());
        PictureStudio t = Check.studio(16, 16);
        give(t, 0, far);
        give(t, 1, far);
        dueConverted("there and back", t, 0, far, 1, far, allValues());
        int[] minus = {-1, 0, 0, 0, 1, 0, 0, 0, 1, 0};
        PictureStudio m = Check.studio(16, 16);
        give(m, 1, minus);
        give(m, 0, minus);
        dueConverted("determinant -1", m, 0, minus, 1, minus, allValues());
        int[] below = {-1024, 0, 0, 0, 1024, 0, 0, 0, 1024, 0};
        PictureStudio b = Check.studio(1, 1);
        give(b, 1, below);
        Check.picture(b, 0xFFFF80FF);
        b.convert(0, 0, 1);
        Check.dueColour("below 0: 0", b.pixel(0, 0, 0), 0xFF0080FF);
        PictureStudio n = Check.studio(1, 1);
        n.profile(0, 9, 1);
        n.profile(1, 9, 1);
        Check.picture(n, 0x00030201);
        n.convert(0, 0, 1);
        Check.dueColour("squares of 0 to 3 are 0: the least", n.pixel(0, 0, 0), 0);
    }

    private static void determinant() {
        int[][] singular = {{0, 0, 0, 0, 0, 0, 0, 0, 0}, {1, 2, 3, 4, 5, 6, 7, 8, 9}, {1024, 0, 0, 0, 1024, 0, 0, 0, 0},
            {4096, 4096, 4096, 4096, 4096, 4096, 1, 2, 3}, {1024, 0, 1024, 0, 1024, 0, 1024, 0, 1024}};
        for (int[] nine : singular) {
            PictureStudio s = Check.canvas(1, 1);
            for (int i = 0; i < 9; i++) {
                s.profile(1, i, nine[i]);
            }
            Check.refused("to " + Arrays.toString(nine), () -> s.convert(0, 0, 1));
            Check.due("no EDIT", s.count(3), 1);
            Check.taken("from it", () -> s.convert(0, 1, 0));
        }
        int[][] regular = {{1, 0, 0, 0, 1, 0, 0, 0, 1}, {1, 2, 3, 4, 5, 6, 7, 8, 10}, {0, 0, -1, 0, 1, 0, 1, 0, 0},
            {4096, 4096, 4096, 4096, 4096, 4095, 4096, 4095, 4096}};
        for (int[] nine : regular) {
            PictureStudio s = Check.canvas(1, 1);
            for (int i = 0; i < 9; i++) {
                s.profile(1, i, nine[i]);
            }
            Check.taken("to " + Arrays.toString(nine), () -> s.convert(0, 0, 1));
        }
    }

    private static void wrongLayers(PictureStudio s, Check.Setting call) {
        for (int kind = 1; kind < 6; kind++) {
            int l = s.layer(kind, -1, 0);
            Check.bad("KIND " + kind, () -> call.give(l));
        }
        for (int l : new int[] {-1, 6, 29, 30, Integer.MIN_VALUE, Integer.MAX_VALUE}) {
            Check.missing("LAYER " + l, () -> call.give(l));
        }
        Check.due("no EDIT", s.count(3), 6);
    }

    private static void convert() {
        PictureStudio s = Check.canvas(1, 1);
        wrongLayers(s, l -> s.convert(l, 0, 0));
        Check.ends("p", 0, 3, v -> s.convert(0, v, 0));
        Check.ends("q", 0, 3, v -> s.convert(0, 0, v));
        PictureStudio a = Check.studio(2, 1);
        Check.picture(a, 0x00102030, 0x01102030);
        a.profile(1, 0, 512);
        a.convert(0, 1, 0);
        Check.duePixels("A stays, also 0", a, 0, 0x00082030, 0x01082030);
    }

    private static void profile() {
        PictureStudio s = Check.studio(1, 1);
        for (int i = 0; i < 9; i++) {
            int k = i;
            Check.ends("number " + i, -4096, 4096, v -> s.profile(3, k, v));
        }
        Check.ends("sort", 0, 2, v -> s.profile(0, 9, v));
        Check.ends("p", 0, 3, v -> s.profile(v, 0, 1));
        Check.ends("i", 0, 9, v -> s.profile(0, v, 1));
        Check.bad("sort 1024", () -> s.profile(0, 9, 1024));
        Check.due("no EDIT", s.count(3), 0);
    }

    // ---- FEW

    private static void dueFew(String what, int w, int n, boolean dither, int... colours) {
        int h = colours.length / w;
        PictureStudio s = Check.studio(w, h);
        Check.picture(s, colours);
        int[] due = Told.few(colours, w, n, dither);
        Check.due(what + ": how many", s.few(0, n, dither), due[colours.length]);
        for (int i = 0; i < colours.length && i < 300; i++) {
            Check.dueColour(what + " at " + i, s.pixel(0, i % w, i / w), due[i]);
        }
    }

    private static int[] greys(int... values) {
        int[] all = new int[values.length];
        for (int i = 0; i < all.length; i++) {
            all[i] = Check.grey(values[i]);
        }
        return all;
    }

    private static void fewEnds() {
        PictureStudio s = Check.canvas(1, 1);
        Check.ends("n", 2, 16, v -> s.few(0, v, false));
        Check.ends("n, dithered", 2, 16, v -> s.few(0, v, true));
        int[] many = new int[64];
        for (int i = 0; i < 64; i++) {
            many[i] = Told.colour(255, i * 4, i * 37 & 255, i * 91 & 255);
        }
        for (int n = 2; n <= 16; n++) {
            dueFew("n " + n + " of 64", 8, n, false, many);
            dueFew("n " + n + " of 64, dithered", 8, n, true, many);
        }
        dueFew("one pixel", 1, 2, false, 0xFF102030);
        dueFew("one pixel of two", 2, 2, true, 0xFF102030, 0x00FFFFFF);
        dueFew("A 1 counts", 2, 2, false, 0x01102030, 0x01304050);
        dueFew("A 1 is given a colour", 3, 2, false, 0x01000000, 0xFF000004, 0xFF0000FF);
        PictureStudio g = Check.canvas(24, 24);
        g.fill(0, 0);
        g.filter(0, 9, 255);
        Check.due("576 pixels", g.few(0, 16, true), 16);
    }

    private static void longestSide() {
        dueFew("white alone", 2, 16, false, -1, -1);
        dueFew("black alone", 2, 16, false, 0xFF000000, 0xFF000000);
        dueFew("two that differ by 1", 2, 16, false, 0xFF000000, 0xFF000001);
        dueFew("two that differ by 1", 2, 2, false, 0xFFFFFFFF, 0xFFFFFEFF);
        dueFew("R ahead of G", 3, 2, false, 0xFF000000, 0xFF0A0000, 0xFF000A00);
        dueFew("R ahead of B", 3, 2, false, 0xFF000000, 0xFF00000A, 0xFF0A0000);
        dueFew("G ahead of B", 3, 2, false, 0xFF000000, 0xFF00000A, 0xFF000A00);
        dueFew("G longer by 1", 3, 2, false, 0xFF000000, 0xFF0A0000, 0xFF000B00);
        dueFew("B longer by 1", 3, 2, false, 0xFF000000, 0xFF0A0A00, 0xFF00000B);
        dueFew("of equal BOXES the first", 4, 3, false, greys(0, 10, 200, 210));
        dueFew("the second one is longer by 1", 4, 3, false, greys(0, 10, 200, 211));
        dueFew("exactly as many as there are", 4, 4, false, greys(0, 10, 200, 211));
        dueFew("one fewer", 4, 3, false, greys(7, 8, 9, 10));
        dueFew("0 and 255", 2, 2, false, greys(0, 255));
    }

    private static void cuts() {
        int[][] cases = {{5, 5, 5, 9}, {1, 5, 5, 5}, {1, 5, 5, 9}, {1, 1, 5, 5}, {1, 5}, {1, 5, 9}, {5, 5, 9}, {1, 5, 5}, {1, 1, 1, 5, 5, 5, 5},
            {1, 2, 5, 5, 5, 5, 5}, {5, 5, 5, 5, 5, 8, 9}, {0, 5, 5, 5, 5, 5, 9}, {1, 2, 3, 4, 5, 6, 7}, {0, 255, 255, 255}, {0, 0, 0, 255}};
        for (int[] c : cases) {
            for (int n = 2; n <= 4; n++) {
                dueFew("greys " + Arrays.toString(c) + " by " + n, c.length, n, false, greys(c));
            }
        }
        Random r = new Random(53);
        for (int i = 0; i < 40; i++) {
            int[] colours = new int[20];
            int kinds = 2 + r.nextInt(5);
            for (int k = 0; k < 20; k++) {
                colours[k] = Told.colour(255, r.nextInt(kinds) * 40, r.nextInt(kinds) * 41, r.nextInt(kinds) * 39);
            }
            dueFew("few kinds " + i, 5, 2 + r.nextInt(15), i % 2 == 0, colours);
        }
    }

    private static void means() {
        dueFew("none can be cut: one", 3, 16, false, greys(9, 9, 9));
        dueFew("none can be cut: three", 4, 16, false, greys(9, 8, 9, 7));
        dueFew("(0 + 1 + 1) / 2 is 1", 4, 2, false, greys(0, 1, 200, 203));
        dueFew("(1 + 1 + 2 + 1) / 3 is 1", 6, 2, false, greys(1, 1, 2, 253, 254, 254));
        dueFew("a mean of 255", 4, 2, false, greys(255, 255, 0, 0));
    }

    private static void nearest() {
        dueFew("of equal ones the first: 10 is as near to 0 as to 20", 5, 2, false, greys(0, 0, 10, 20, 20));
        dueFew("not that of its own BOX", 3, 2, false, greys(5, 6, 90));
        Random r = new Random(59);
        for (int i = 0; i < 25; i++) {
            int[] colours = new int[48];
            for (int k = 0; k < 48; k++) {
                colours[k] = r.nextInt() | 0x01000000;
            }
            dueFew("pictures " + i, 8, 2 + i % 15, false, colours);
        }
    }

    private static void dithered() {
        int[][] sizes = {{1, 1}, {1, 9}, {9, 1}, {2, 2}, {3, 7}, {8, 6}, {20, 14}};
        Random r = new Random(61);
        for (int[] size : sizes) {
            for (int i = 0; i < 12; i++) {
                int[] colours = new int[size[0] * size[1]];
                for (int k = 0; k < colours.length; k++) {
                    colours[k] = i < 6 ? Check.grey(60 + r.nextInt(100)) : r.nextInt() | 0x01000000;
                }
                dueFew("dithered " + i + " of " + size[0] + " by " + size[1], size[0], 2 + i % 4, true, colours);
            }
        }
        dueFew("CLIPPED above", 4, 2, true, greys(255, 255, 255, 200));
        dueFew("CLIPPED below", 4, 2, true, greys(0, 0, 0, 70));
    }

    private static void leftOut() {
        Random r = new Random(67);
        for (int i = 0; i < 20; i++) {
            int[] colours = new int[30];
            for (int k = 0; k < 30; k++) {
                colours[k] = (r.nextInt(3) == 0 ? 0 : 1 + r.nextInt(255)) << 24 | r.nextInt(1 << 24);
            }
            colours[0] |= 0x01000000;
            dueFew("left out " + i, 6, 2 + i % 5, true, colours);
        }
    }

    private static void few() {
        PictureStudio s = Check.canvas(1, 1);
        wrongLayers(s, l -> s.few(l, 2, false));
        Check.bad("n 1", () -> s.few(0, 1, true));
        Check.bad("n 17", () -> s.few(0, 17, true));
        PictureStudio t = Check.studio(3, 1);
        Check.picture(t, greys(1, 100, 200));
        t.select(1, 0, 0, 0, 0, 0);
        Check.due("the SELECTION doesn't count", t.few(0, 2, false), 2);
        Check.duePixels("the SELECTION doesn't count", t, 0, greys(1, 150, 150));
    }

    // ---- RAW

    private static void feedFrame(PictureStudio s, int... values) {
        byte[] bytes = new byte[2 * values.length];
        for (int i = 0; i < values.length; i++) {
            bytes[2 * i] = (byte) (values[i] >> 8);
            bytes[2 * i + 1] = (byte) values[i];
        }
        Check.feedBytes(s, bytes);
    }

    private static void frames() {
        PictureStudio s = Check.studio(3, 2);
        for (int n : new int[] {0, 1, 2, 10, 11, 13, 14, 24}) {
            Check.feedBytes(s, new byte[n]);
            Check.faulty(n + " bytes for 12", s, () -> s.raw(), 1, n);
        }
        feedFrame(s, 0, 4095, 0, 4095, 0, 4095);
        Check.taken("12 bytes, 4095", () -> s.raw());
        Check.due("no FAULT", s.fault(0), 0);
        for (int i = 0; i < 6; i++) {
            int[] values = new int[6];
            values[i] = 4096;
            feedFrame(s, values);
            Check.faulty("4096 at " + i, s, () -> s.raw(), 2, 2 * i);
            values[i] = 65535;
            values[5] = 65535;
            feedFrame(s, values);
            Check.faulty("the first of them", s, () -> s.raw(), 2, 2 * i);
        }
        Check.feedBytes(s, new byte[] {-1, -1, 0});
        Check.faulty("too short, and above 4095", s, () -> s.raw(), 1, 3);
        PictureStudio g = Check.studio(24, 24);
        Check.feedBytes(g, new byte[1152]);
        Check.due("24 by 24", g.raw(), 0);
        Check.feedBytes(g, new byte[1151]);
        Check.faulty("one byte too few", g, () -> g.raw(), 1, 1151);
        Check.feedBytes(g, new byte[1153]);
        Check.faulty("one byte too many", g, () -> g.raw(), 1, 1153);
    }

    private static void dueRaw(String what, int w, int[] settings, int... values) {
        int h = values.length / w;
        PictureStudio s = Check.studio(w, h);
        for (int i = 0; i < 4; i++) {
            s.develop(i, settings[i]);
        }
        feedFrame(s, values);
        s.raw();
        int[] light = new int[values.length];
        for (int i = 0; i < light.length; i++) {
            light[i] = Math.max(0, Math.min(4095, (values[i] - settings[0]) * settings[1 + sort(i % w, i / w)] / 64));
        }
        for (int i = 0; i < light.length; i++) {
            int[] c = new int[3];
            for (int k = 0; k < 3; k++) {
                c[k] = lightAt(light, w, i, k) >> 4;
            }
            Check.dueColour(what + " at " + i, s.pixel(0, i % w, i / w), Told.colour(255, c[0], c[1], c[2]));
        }
    }

    private static int sort(int x, int y) {
        return x % 2 == 0 && y % 2 == 0 ? 0 : x % 2 == 1 && y % 2 == 1 ? 2 : 1;
    }

    private static int lightAt(int[] light, int w, int i, int k) {
        if (sort(i % w, i / w) == k) {
            return light[i];
        }
        int sum = 0;
        int many = 0;
        for (int j = 0; j < light.length; j++) {
            boolean near = Math.abs(j % w - i % w) <= 1 && Math.abs(j / w - i / w) <= 1 && j != i;
            if (near && sort(j % w, j / w) == k) {
                sum += light[j];
                many++;
            }
        }
        return many == 0 ? 0 : (sum + many / 2) / many;
    }

    private static void developed() {
        int[][] settings = {{0, 64, 64, 64}, {4095, 1024, 1024, 1024}, {0, 1024, 1024, 1024}, {0, 0, 0, 0}, {100, 63, 65, 128}, {1, 1, 64, 1024},
            {2048, 200, 30, 77}};
        for (int i = 0; i < settings.length; i++) {
            int[] values = new int[20];
            Random r = new Random(i);
            for (int k = 0; k < 20; k++) {
                values[k] = k % 4 == 0 ? 4095 : k % 4 == 1 ? r.nextInt(200) : r.nextInt(4096);
            }
            dueRaw("settings " + i, 5, settings[i], values);
        }
        dueRaw("black is raw", 1, new int[] {100, 64, 64, 64}, 100);
        dueRaw("black above raw: 0", 1, new int[] {101, 1024, 64, 64}, 100);
        dueRaw("black far above raw: 0", 2, new int[] {4095, 1024, 1024, 1024}, 0, 1, 2, 3);
        dueRaw("255 64 / 64 is 255: 15", 1, new int[] {0, 64, 64, 64}, 255);
        dueRaw("256: 16", 1, new int[] {0, 64, 64, 64}, 256);
        dueRaw("(0 + 30 + 1) / 2 is 15, 0 not 1", 2, new int[] {5, 64, 64, 64}, 0, 3, 35, 0);
        dueRaw("brought to 4095", 1, new int[] {0, 65, 64, 64}, 4095);
    }

    private static void around() {
        int[] settings = {0, 64, 64, 64};
        int[][] sizes = {{1, 1}, {1, 2}, {2, 1}, {2, 2}, {3, 3}, {1, 7}, {7, 1}, {4, 5}, {9, 8}, {24, 12}};
        for (int[] size : sizes) {
            int[] values = new int[size[0] * size[1]];
            Random r = new Random(size[0]);
            for (int k = 0; k < values.length; k++) {
                values[k] = r.nextInt(4096);
            }
            dueRaw(size[0] + " by " + size[1], size[0], settings, values);
        }
        PictureStudio s = Check.studio(1, 1);
        feedFrame(s, 4095);
        s.raw();
        Check.dueColour("none around: 0", s.pixel(0, 0, 0), 0xFFFF0000);
        // four of G around R: (15 + 16 + 16 + 16 + 2) / 4 is 16; (15 + 15 + 16 + 15 + 2) / 4 is 15
        dueRaw("four around", 3, settings, 0, 16, 0, 16, 0, 15, 0, 16, 0);
        dueRaw("four around", 3, settings, 0, 15, 0, 15, 0, 16, 0, 16, 0);
    }

    private static void raw() {
        PictureStudio s = Check.studio(1, 1);
        s.layer(1, -1, 0);
        s.layer(2, -1, 1);
        s.layer(2, 0, 0);
        feedFrame(s, 4095);
        Check.due("its number", s.raw(), 3);
        int[] due = {0, -1, 2, 255, 0, 1, 0, 0, 0, 0};
        for (int what = 0; what < due.length; what++) {
            Check.due("about(3, " + what + ")", s.about(3, what), due[what]);
        }
        while (s.count(2) < 30) {
            s.layer(2, -1, 0);
        }
        feedFrame(s, 4095);
        Check.full("no number is left", () -> s.raw());
        feedFrame(s, 4096);
        Check.full("FULL ahead of the FAULT", () -> s.raw());
        Check.due("no FAULT", s.fault(0), 0);
        Check.due("30 LAYERS", s.count(2), 30);
    }

    private static void develop() {
        PictureStudio s = Check.studio(1, 1);
        Check.ends("black", 0, 4095, v -> s.develop(0, v));
        for (int i = 1; i < 4; i++) {
            int what = i;
            Check.ends("gain " + i, 0, 1024, v -> s.develop(what, v));
        }
        Check.ends("what", 0, 3, v -> s.develop(v, 1));
        Check.due("no EDIT", s.count(3), 0);
    }
}
