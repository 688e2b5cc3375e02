import java.util.Random;
import java.util.function.Consumer;

/** Boundary cases of what is seen: blending, clipping, RAMPS, TILES and ZOOMED: promises 39 to 43. */
public final class EdgesSeenTest {
    private static final int[] ENDS = {0, 1, 2, 63, 64, 126, 127, 128, 129, 191, 192, 253, 254, 255};

    public static void main(String[] args) {
        Check.sentence("shifted by dx, dy (-64 .. 64, 0 at first; what's beyond is 0);", EdgesSeenTest::shifted);
        Check.sentence("WHAT IS SEEN of a PARENT: at first all 0; then its LAYERS that are shown, from the lowest.",
            EdgesSeenTest::nothingThere);
        Check.sentence("m its MASK there (none: 255)", EdgesSeenTest::masks);
        Check.sentence("(shown or not; none, or it isn't shown, or is CURVED or LIVE: 0).", EdgesSeenTest::clipped);
        Check.sentence("e = MUL(MUL(MUL(s.A, opacity), m), k).", EdgesSeenTest::thereBy);
        Check.sentence("den = 255 e + (255 - e) b.A; den 0: 0; else A = (den + 127) / 255", EdgesSeenTest::den);
        Check.sentence("u = MUL(MUL(opacity, m), k); each of the four samples: MIX(b, s, u).", EdgesSeenTest::adjusted);
        Check.sentence("n 0: p; u = 255 v / n brought to 0 .. 255 (v reckoned first, 255 v as it is);", EdgesSeenTest::ramp);
        Check.sentence("6: b 0: 0; s 255: 255; else at most 255 of 255 b / (255 - s).", () -> dueMode(6));
        Check.sentence("7: b 255: 255; s 0: 0; else 255 less, at most 255, 255 (255 - b) / s.", () -> dueMode(7));
        Check.sentence("8: s below 128: MUL(2 s, b), else b + v - MUL(b, v), v = 2 s - 255.", () -> dueMode(8));
        Check.sentence("3 as 8 of (s, b).", () -> dueMode(3));
        Check.sentence("4 the lesser. 5 the greater.", () -> dueMode(4));
        Check.sentence("9 |b - s|.", () -> dueMode(9));
        Check.sentence("11 at most 255 of b + s.", () -> dueMode(11));
        Check.sentence("12 at least 0 of b - s.", () -> dueMode(12));
        Check.sentence("13 CLIP(MUL(255 - b, MUL(b, s)) + MUL(b, b + s - MUL(b, s))).", () -> dueMode(13));
        Check.sentence("14 CLIP(b + Y(s) - Y(b)), Y of the whole COLOURS.", () -> dueMode(14));
        Check.sentence("15 CLIP(s + Y(b) - Y(s)).", () -> dueMode(15));
        Check.sentence("MODE(b, s): 0 s. 1 MUL(b, s). 2 b + s - MUL(b, s).", EdgesSeenTest::allModes);
        Check.sentence("see works out the TILE of its pixel, if it isn't KEPT, and KEEPS it.", EdgesSeenTest::tiles);
        Check.sentence("TILES of 8 by 8, row by row (a box meets one also in its places beyond the DOCUMENT's ends).",
            EdgesSeenTest::beyondTheEnds);
        Check.sentence("no TILE is KEPT any more that meets this box, made greater on all sides by the sum of the REACHES of all "
            + "LIVE LAYERS;", EdgesSeenTest::reaches);
        Check.sentence("other EDITS, undo, redo, open, curve, kernel: none is KEPT.", EdgesSeenTest::noneIsKept);
        Check.sentence("(If no pixel was changed, all are KEPT.)", EdgesSeenTest::allAreKept);
        Check.sentence("How many pixels changed: those that are not as they were ahead of the EDIT.", EdgesSeenTest::howMany);
        Check.sentence("of the pixels x 2^z .. (x + 1) 2^z - 1 (those there are), likewise y: a the sum of A, A = (a + n / 2) / n "
            + "(n how many), R = (the sum of R A + a / 2) / a, and so on (a 0: all 0).", EdgesSeenTest::zoomed);
        Check.sentence("ZOOMED (z 1 .. 3): no TILES are asked. Bad z; missing: no pixel of it there.", EdgesSeenTest::zoomedEnds);
        Check.sentence("What is seen at x, y, as an int. Missing.", EdgesSeenTest::see);
        Check.sentence("h = 31 h + the int, from 0 on, row by row; no TILES are asked.", EdgesSeenTest::hash);
        Check.sentence("A LAYER's own pixel at x, y (PIXELS; before its shift), as an int. Missing (other KINDS, too).",
            EdgesSeenTest::pixel);
        Check.sentence("A LAYER's MASK at x, y; -1 without one. Missing.", EdgesSeenTest::masked);
        Check.done("EdgesSeenTest");
    }

    private static int[] random(int seed, int many) {
        Random r = new Random(seed);
        int[] all = new int[many];
        for (int i = 0; i < many; i++) {
            int[] v = new int[4];
            for (int k = 0; k < 4; k++) {
                v[k] = r.nextBoolean() ? ENDS[r.nextInt(ENDS.length)] : r.nextInt(256);
            }
            all[i] = Told.colour(v[0], v[1], v[2], v[3]);
        }
        return all;
    }

    // ---- LAYERS

    private static void shifted() {
        int[] colours = new int[6];
        for (int i = 0; i < 6; i++) {
            colours[i] = 0xFF000001 + i;
        }
        int[][] shifts = {{0, 0}, {1, 0}, {-1, 0}, {0, 1}, {0, -1}, {2, 1}, {-2, -1}, {3, 0}, {-3, 0}, {0, 2}, {0, -2}, {64, 0},
            {-64, 0}, {0, 64}, {0, -64}, {64, -64}};
        PictureStudio s = Check.studio(3, 2);
        Check.picture(s, colours);
        for (int[] shift : shifts) {
            s.set(0, 4, shift[0]);
            s.set(0, 5, shift[1]);
            for (int i = 0; i < 6; i++) {
                int x = i % 3 - shift[0];
                int y = i / 3 - shift[1];
                int due = x >= 0 && x < 3 && y >= 0 && y < 2 ? colours[y * 3 + x] : 0;
                Check.dueColour("shifted by " + shift[0] + ", " + shift[1], s.see(i % 3, i / 3), due);
            }
        }
        PictureStudio g = Check.studio(24, 24);
        g.layer(0, -1, 0);
        g.fill(0, 0);
        g.set(0, 4, 23);
        g.set(0, 5, 23);
        Check.dueColour("one pixel is left", g.see(23, 23), 0xFF000000);
        Check.due("just one", g.hash(), 0xFF000000);
        g.set(0, 4, 24);
        Check.due("none", g.hash(), 0);
        g.set(0, 4, -23);
        g.set(0, 5, -23);
        Check.dueColour("the last one comes first", g.see(0, 0), 0xFF000000);
        g.set(0, 5, -24);
        Check.due("none", g.hash(), 0);
    }

    private static void nothingThere() {
        PictureStudio s = Check.studio(24, 24);
        Check.due("no LAYERS", s.hash(), 0);
        s.layer(1, -1, 0);
        s.layer(1, 0, 0);
        Check.due("empty GROUPS", s.hash(), 0);
        s.layer(2, -1, 0);
        s.colours(2, -1, 0);
        Check.dueColour("a GROUP of nothing leaves all", s.see(23, 23), -1);
        s.set(2, 2, 0);
        Check.due("none is shown", s.hash(), 0);
        PictureStudio o = Check.studio(1, 1);
        o.layer(2, -1, 0);
        o.layer(2, -1, 1);
        o.colours(0, 0xFF000001, 0);
        o.colours(1, 0xFF000002, 0);
        Check.dueColour("from the lowest: the highest is seen", o.see(0, 0), 0xFF000002);
        o.move(1, -1, 0);
        Check.dueColour("then the other one", o.see(0, 0), 0xFF000001);
    }

    private static void masks() {
        PictureStudio s = Check.studio(2, 1);
        s.layer(2, -1, 0);
        s.colours(0, 0xFF102030, 0);
        Check.dueColour("none", s.see(1, 0), 0xFF102030);
        s.mask(0, 3);
        Check.dueColour("255", s.see(1, 0), 0xFF102030);
        s.mask(0, 2);
        Check.dueColour("0", s.see(1, 0), 0);
        s.select(1, 0, 1, 0, 1, 1);
        s.mask(0, 1);
        Check.dueColour("0 here", s.see(0, 0), 0);
        Check.dueColour("255 there", s.see(1, 0), 0xFF102030);
        s.set(0, 4, 1);
        Check.dueColour("a MASK isn't shifted", s.see(0, 0), 0);
        PictureStudio g = Check.studio(24, 24);
        g.layer(1, -1, 0);
        g.layer(2, 0, 0);
        g.colours(1, -1, 0);
        g.select(1, 0, 23, 23, 1, 1);
        g.mask(0, 1);
        Check.due("a GROUP's: just the last pixel", g.hash(), -1);
    }

    /** A FILL of 128 with a clipped one above it. */
    private static PictureStudio clippedPair() {
        PictureStudio s = Check.studio(1, 1);
        s.layer(2, -1, 0);
        s.layer(2, -1, 1);
        s.colours(0, 0x80000000, 0);
        s.colours(1, 0xFFFFFFFF, 0);
        s.set(1, 3, 1);
        return s;
    }

    private static void clipped() {
        PictureStudio s = clippedPair();
        int both = Told.over(0x80000000, 0xFFFFFFFF, 128, 0);
        Check.dueColour("by 128", s.see(0, 0), both);
        s.set(0, 3, 1);
        Check.dueColour("none that isn't clipped: 0", s.see(0, 0), 0);
        s.set(0, 3, 0);
        s.set(0, 2, 0);
        Check.dueColour("it isn't shown: 0", s.see(0, 0), 0);
        s.set(0, 2, 1);
        s.layer(2, -1, 1);
        s.set(2, 3, 1);
        Check.dueColour("a clipped one between them is passed over", s.see(0, 0), both);
        s.set(2, 2, 0);
        Check.dueColour("also if it isn't shown", s.see(0, 0), both);
        s.set(2, 3, 0);
        Check.dueColour("not clipped and not shown: 0", s.see(0, 0), 0x80000000);
        s.set(2, 2, 1);
        Check.dueColour("there by 0: 0", s.see(0, 0), 0x80000000);
        for (int kind = 4; kind < 6; kind++) {
            PictureStudio t = clippedPair();
            t.layer(kind, -1, 1);
            t.set(2, 0, 0);
            Check.dueColour("CURVED or LIVE: 0", t.see(0, 0), 0x80000000);
            t.set(2, 3, 1);
            Check.dueColour("clipped it is passed over", t.see(0, 0), both);
        }
        PictureStudio g = clippedPair();
        g.layer(1, -1, 1);
        g.move(1, 2, 0);
        Check.dueColour("none with that PARENT: 0", g.see(0, 0), 0x80000000);
        g.layer(2, 2, 0);
        g.colours(3, 0x40FF0000, 0);
        Check.dueColour("by the one in the GROUP", g.see(0, 0),
            Told.over(0x80000000, Told.over(0x40FF0000, -1, 64, 0), Told.over(0x40FF0000, -1, 64, 0) >>> 24, 0));
        PictureStudio m = clippedPair();
        m.set(0, 0, 128);
        m.select(1, 0, 0, 0, 0, 0);
        m.mask(0, 1);
        Check.dueColour("e counts MASK: 0", m.see(0, 0), 0);
    }

    private static void thereBy() {
        int[][] cases = {{1, 128, 255, 1}, {1, 127, 255, 0}, {255, 255, 255, 255}, {128, 128, 128, 32}, {255, 1, 128, 1},
            {255, 1, 127, 0}, {3, 85, 127, 0}, {3, 85, 128, 1}, {0, 255, 255, 0}, {255, 0, 255, 0}, {255, 255, 0, 0}};
        for (int[] one : cases) {
            PictureStudio s = Check.studio(1, 1);
            s.layer(2, -1, 0);
            s.colours(0, one[2] << 24, 0);
            s.layer(2, -1, 1);
            s.colours(1, one[0] << 24 | 0xFFFFFF, 0);
            s.set(1, 0, one[1]);
            s.set(1, 3, 1);
            int e = Told.mul(Told.mul(one[0], one[1]), one[2]);
            Check.due("e by hand", e, one[3]);
            Check.dueColour("A " + one[0] + ", opacity " + one[1] + ", k " + one[2], s.see(0, 0),
                one[2] == 0 ? 0 : Told.over(one[2] << 24, one[0] << 24 | 0xFFFFFF, e, 0));
        }
    }

    private static void den() {
        PictureStudio s = Check.studio(1, 1);
        s.layer(2, -1, 0);
        s.layer(2, -1, 1);
        // den 32513: 32513 + 127 is 128 255; den 32767: 32767 + 127 is just below 129 255
        int[][] dues = {{1, 127, 128}, {1, 128, 128}, {127, 1, 128}, {128, 1, 128}, {0, 0, 0}, {255, 255, 255}, {1, 0, 1},
            {0, 1, 1}, {1, 1, 2}, {254, 254, 255}, {128, 255, 255}};
        for (int[] due : dues) {
            s.colours(0, due[0] << 24 | 0x0A0B0C, 0);
            s.colours(1, due[1] << 24 | 0xFFFFFF, 0);
            Check.due("A of " + due[1] + " over " + due[0], s.see(0, 0) >>> 24, due[2]);
        }
        s.colours(0, 0x00FFFFFF, 0);
        s.colours(1, 0x00FFFFFF, 0);
        Check.dueColour("den 0: all is 0", s.see(0, 0), 0);
    }

    private static void adjusted() {
        for (int kind = 4; kind < 6; kind++) {
            for (int opacity : new int[] {0, 1, 127, 128, 254, 255}) {
                PictureStudio s = Check.studio(1, 1);
                s.layer(2, -1, 0);
                s.colours(0, 0x80102030, 0);
                s.layer(kind, -1, 1);
                s.curve(0, 3, 0, 200);
                s.set(1, 0, opacity);
                int by = kind == 4 ? 0x80C8C8C8 : 0x80EFDFCF;
                Check.dueColour("by opacity " + opacity, s.see(0, 0), Told.mixed(0x80102030, by, opacity));
                s.set(1, 3, 1);
                Check.dueColour("clipped by 128, too", s.see(0, 0), Told.mixed(0x80102030, by, Told.mul(opacity, 128)));
                s.select(1, 0, 0, 0, 0, 0);
                s.mask(1, 1);
                Check.dueColour("MASK 0", s.see(0, 0), 0x80102030);
            }
        }
        PictureStudio a = Check.studio(3, 1);
        Check.picture(a, 0xFF000000, 0, 0);
        a.layer(5, -1, 1);
        a.colours(1, 0, 1);
        a.set(1, 0, 128);
        Check.dueColour("A is mixed, too: MIX(255, 170, 128)", a.see(0, 0), 0xD4000000);
        Check.dueColour("A is mixed, too: MIX(0, 85, 128)", a.see(1, 0), 0x2B000000);
        Check.dueColour("A is mixed, too: MIX(0, 0, 128)", a.see(2, 0), 0);
    }

    private static void dueRamp(int w, int h, int... points) {
        PictureStudio s = Check.studio(w, h);
        s.layer(3, -1, 0);
        s.colours(0, 0xFF000000, 0x80FF40C0);
        s.ramp(0, points[0], points[1], points[2], points[3]);
        int dx = points[2] - points[0];
        int dy = points[3] - points[1];
        int n = dx * dx + dy * dy;
        int[] due = new int[w * h];
        for (int i = 0; i < due.length; i++) {
            int v = (i % w - points[0]) * dx + (i / w - points[1]) * dy;
            due[i] = n == 0 ? 0xFF000000 : Told.mixed(0xFF000000, 0x80FF40C0, Told.clip(255 * v / n));
        }
        Check.due("a RAMP from " + points[0] + ", " + points[1] + " to " + points[2] + ", " + points[3], s.hash(),
            Check.hash(due));
    }

    private static void ramp() {
        PictureStudio s = Check.studio(4, 1);
        s.layer(3, -1, 0);
        s.colours(0, 0xFF000000, 0xFFFFFFFF);
        s.ramp(0, 1, 0, 1, 0);
        for (int x = 0; x < 4; x++) {
            Check.dueColour("n 0: p", s.see(x, 0), 0xFF000000);
        }
        s.ramp(0, 1, 0, 2, 0);
        int[] due = {0, 0, 255, 255};
        for (int x = 0; x < 4; x++) {
            Check.dueColour("n 1: p, then q", s.see(x, 0), Check.grey(due[x]));
        }
        s.ramp(0, 3, 0, 0, 0);
        int[] back = {255, 170, 85, 0};
        for (int x = 0; x < 4; x++) {
            Check.dueColour("backwards", s.see(x, 0), Check.grey(back[x]));
        }
        s.ramp(0, 0, 0, 0, 1);
        Check.dueColour("across it: v 0", s.see(3, 0), 0xFF000000);
        s.ramp(0, 0, 0, 7, 0);
        // 255 2 / 7 is 72; 2 / 7 first would be 0
        Check.dueColour("255 v, then / n", s.see(2, 0), Check.grey(72));
        s.ramp(0, -1, 0, 7, 3);
        // v = 2 8 + 0 3, n 73: 255 16 / 73
        Check.dueColour("v reckoned first", s.see(1, 0), Check.grey(55));
        int[][] points = {{0, 0, 23, 23}, {-100, -100, 100, 100}, {100, -100, -100, 100}, {-100, 100, 100, -100},
            {100, 100, 100, 99}, {-100, -100, -99, -100}, {12, 12, 12, 12}, {5, 3, 18, 20}, {23, 0, 0, 1}, {-3, 30, 9, -7}};
        for (int[] p : points) {
            dueRamp(24, 24, p);
        }
    }

    // ---- MODES

    /** Each two of the ends as samples, A 255. */
    private static void dueMode(int mode) {
        int n = ENDS.length;
        int[] lower = new int[n * n];
        int[] upper = new int[n * n];
        int[] due = new int[n * n];
        for (int i = 0; i < n * n; i++) {
            lower[i] = Told.colour(255, ENDS[i / n], ENDS[(i / n + 5) % n], ENDS[(i / n + 9) % n]);
            upper[i] = Told.colour(255, ENDS[i % n], ENDS[(i % n + 3) % n], ENDS[(i % n + 8) % n]);
            due[i] = Told.over(lower[i], upper[i], 255, mode);
        }
        dueBlended("mode " + mode, mode, n, lower, upper, due);
    }

    private static void dueBlended(String what, int mode, int w, int[] lower, int[] upper, int[] due) {
        PictureStudio s = Check.studio(w, due.length / w);
        Check.picture(s, lower);
        Check.picture(s, upper);
        s.set(1, 1, mode);
        Check.due(what + ": hash", s.hash(), Check.hash(due));
        for (int i = 0; i < due.length; i += 3) {
            Check.dueColour(what + ": " + Integer.toHexString(upper[i]) + " over " + Integer.toHexString(lower[i]),
                s.see(i % w, i / w), due[i]);
        }
    }

    /** All modes, with all sorts of A. */
    private static void allModes() {
        for (int mode = 0; mode < 16; mode++) {
            int[] lower = random(mode, 196);
            int[] upper = random(100 + mode, 196);
            int[] due = new int[196];
            for (int i = 0; i < 196; i++) {
                int below = Told.over(0, lower[i], lower[i] >>> 24, 0);
                due[i] = Told.over(below, upper[i], upper[i] >>> 24, mode);
            }
            dueBlended("mode " + mode, mode, 14, lower, upper, due);
        }
    }

    // ---- TILES

    private static void tiles() {
        PictureStudio s = Check.studio(17, 9);
        int[][] places = {{0, 0, 1}, {7, 0, 1}, {0, 7, 1}, {7, 7, 1}, {8, 7, 2}, {15, 0, 2}, {16, 7, 3}, {7, 8, 4}, {0, 8, 4},
            {8, 8, 5}, {15, 8, 5}, {16, 8, 6}, {16, 0, 6}};
        for (int[] place : places) {
            s.see(place[0], place[1]);
            Check.due("worked out when " + place[0] + ", " + place[1] + " is seen", s.count(5), place[2]);
            Check.due("KEPT", s.count(6), place[2]);
        }
        PictureStudio t = Check.studio(24, 24);
        t.layer(3, -1, 0);
        t.colours(0, 0xFF000000, 0xFFFFFFFF);
        t.ramp(0, 0, 0, 23, 23);
        int[] first = new int[9];
        for (int i = 0; i < 9; i++) {
            first[i] = t.see(i % 3 * 8 + i % 8, i / 3 * 8 + 7 - i % 8);
        }
        Check.due("all nine", t.count(6), 9);
        for (int i = 0; i < 9; i++) {
            Check.dueColour("what is KEPT", t.see(i % 3 * 8 + i % 8, i / 3 * 8 + 7 - i % 8), first[i]);
        }
        Check.due("none is worked out again", t.count(5), 9);
        PictureStudio one = Check.studio(1, 1);
        one.see(0, 0);
        one.see(0, 0);
        Check.due("a TILE of one pixel", one.count(5), 1);
    }

    private static PictureStudio seenAll(PictureStudio s) {
        for (int y = 0; y < s.count(1); y += 8) {
            for (int x = 0; x < s.count(0); x += 8) {
                s.see(x, y);
            }
        }
        return s;
    }

    /** A pixel that isn't there but has samples becomes 0 also where the SELECTION is 0: a change beyond the DOCUMENT. */
    private static int keptBeyond(int w, int h, int dx, int dy, int reach) {
        PictureStudio s = Check.canvas(w, h);
        if (reach > 0) {
            s.layer(5, -1, 1);
            s.colours(1, 0, reach);
        }
        Check.dot(s, 0, 0, 0, 0x00FFFFFF);
        s.set(0, 4, dx);
        s.set(0, 5, dy);
        seenAll(s);
        int many = s.count(6);
        Check.due("one pixel changed", s.fill(0, 0), 1);
        return many - s.count(6);
    }

    private static void beyondTheEnds() {
        Check.due("place 19 of 20", keptBeyond(20, 1, 19, 0, 0), 1);
        Check.due("place 20 of 20, in the third TILE", keptBeyond(20, 1, 20, 0, 0), 1);
        Check.due("place 23 of 20, its last", keptBeyond(20, 1, 23, 0, 0), 1);
        Check.due("place 24 of 20", keptBeyond(20, 1, 24, 0, 0), 0);
        Check.due("place 24 of 20, REACH 1", keptBeyond(20, 1, 24, 0, 1), 1);
        Check.due("place 27 of 20, REACH 4", keptBeyond(20, 1, 27, 0, 4), 1);
        Check.due("place 28 of 20, REACH 4", keptBeyond(20, 1, 28, 0, 4), 0);
        Check.due("place -1", keptBeyond(20, 1, -1, 0, 0), 0);
        Check.due("place -1, REACH 1", keptBeyond(20, 1, -1, 0, 1), 1);
        Check.due("place -4, REACH 4", keptBeyond(20, 1, -4, 0, 4), 1);
        Check.due("place -5, REACH 4", keptBeyond(20, 1, -5, 0, 4), 0);
        Check.due("row 23 of 17", keptBeyond(1, 17, 0, 23, 0), 1);
        Check.due("row 24 of 17", keptBeyond(1, 17, 0, 24, 0), 0);
        Check.due("row 24 of 17, REACH 1", keptBeyond(1, 17, 0, 24, 1), 1);
        Check.due("row -1", keptBeyond(1, 17, 0, -1, 0), 0);
        Check.due("row -1, REACH 1", keptBeyond(1, 17, 0, -1, 1), 1);
        Check.due("place 7 of 3", keptBeyond(3, 3, 7, 7, 0), 1);
        Check.due("place 8 of 3", keptBeyond(3, 3, 8, 7, 0), 0);
        Check.due("place 64", keptBeyond(24, 24, 64, 64, 4), 0);
        Check.due("place -64", keptBeyond(24, 24, -64, -64, 4), 0);
        Check.due("four TILES", keptBeyond(24, 24, 8, 8, 1), 4);
        Check.due("one TILE", keptBeyond(24, 24, 9, 9, 1), 1);
    }

    private static int lostByDot(int x, int y, Consumer<PictureStudio> before) {
        PictureStudio s = Check.canvas(24, 24);
        before.accept(s);
        seenAll(s);
        s.select(1, 0, x, y, 1, 1);
        Check.due("one pixel", s.fill(0, 0), 1);
        return 9 - s.count(6);
    }

    private static void reaches() {
        Check.due("no LIVE", lostByDot(8, 8, s -> { }), 1);
        Consumer<PictureStudio> one = s -> {
            s.layer(5, -1, 1);
            s.colours(1, 5, 2);
        };
        Check.due("REACH 1 at the edge of a TILE", lostByDot(8, 8, one), 4);
        Check.due("REACH 1, one from it", lostByDot(9, 9, one), 1);
        Check.due("REACH 1 at its other edge", lostByDot(15, 15, one), 4);
        Check.due("REACH 1, one from it", lostByDot(14, 14, one), 1);
        Check.due("REACH 1 above", lostByDot(12, 8, one), 2);
        Check.due("REACH 1 on the right", lostByDot(15, 12, one), 2);
        Consumer<PictureStudio> hidden = s -> {
            s.layer(1, -1, 0);
            s.layer(5, 1, 0);
            s.colours(2, 0, 2);
            s.set(2, 2, 0);
            s.set(1, 2, 0);
            s.layer(5, -1, 2);
            s.colours(3, 3, 0);
            s.layer(5, -1, 3);
            s.colours(4, 6, 9);
        };
        Check.due("2 in a GROUP that isn't shown, 1 and 0", lostByDot(10, 12, hidden), 2);
        Check.due("3 is their sum", lostByDot(11, 12, hidden), 1);
        Consumer<PictureStudio> all = s -> {
            for (int i = 0; i < 29; i++) {
                s.layer(5, -1, 0);
                s.colours(i + 1, 5, 8);
            }
        };
        Check.due("203 reaches all", lostByDot(0, 0, all), 9);
        PictureStudio b = Check.canvas(24, 24);
        seenAll(b);
        b.select(1, 0, 7, 7, 2, 2);
        b.select(1, 1, 23, 0, 1, 1);
        b.fill(0, 0);
        Check.due("the box of all that changed: 7 to 23, 0 to 8", b.count(6), 3);
        b.select(0, 0, 0, 0, 0, 0);
        seenAll(b);
        b.layer(5, -1, 1);
        b.colours(1, 4, 0);
        int before = b.see(9, 9);
        b.select(1, 0, 10, 10, 1, 1);
        b.front(0xFFFFFFFF);
        b.fill(0, 0);
        Check.due("what is seen beside it is new", b.see(9, 9) == before ? 1 : 0, 0);
    }

    /** A call behind which no TILE is KEPT. */
    private static void dueNone(String what, Consumer<PictureStudio> call) {
        PictureStudio s = Check.canvas(9, 9);
        s.layer(1, -1, 1);
        s.layer(3, 1, 0);
        s.layer(2, -1, 2);
        s.layer(2, -1, 3);
        s.undo();
        seenAll(s);
        Check.due(what + ": four are KEPT", s.count(6), 4);
        call.accept(s);
        Check.due(what + ": none is KEPT", s.count(6), 0);
        Check.due(what + ": those worked out", s.count(5), 4);
    }

    private static void noneIsKept() {
        dueNone("layer", s -> s.layer(0, -1, 0));
        dueNone("drop", s -> s.drop(3));
        dueNone("move", s -> s.move(3, -1, 2));
        dueNone("set", s -> s.set(0, 0, 255));
        dueNone("mask", s -> s.mask(0, 0));
        dueNone("colours", s -> s.colours(3, 0, 0));
        dueNone("ramp", s -> s.ramp(2, 0, 0, 0, 0));
        dueNone("turn", s -> s.turn(0, 0));
        dueNone("scale", s -> s.scale(0, 1, 1, false));
        dueNone("flat", s -> s.flat(0));
        dueNone("merge", s -> s.merge(1));
        dueNone("convert", s -> s.convert(0, 0, 0));
        dueNone("few", s -> s.few(0, 2, false));
        dueNone("raw", s -> {
            Check.feedBytes(s, new byte[162]);
            s.raw();
        });
        dueNone("png", s -> {
            Check.feedBytes(s, PngFile.picture(1, 1, 0));
            s.png();
        });
        dueNone("undo", s -> s.undo());
        dueNone("redo", s -> s.redo());
        dueNone("open", s -> s.open(9, 9));
        dueNone("curve", s -> s.curve(7, 3, 0, 0));
        dueNone("curve", s -> s.curve(7, 3, -1, 0));
        dueNone("kernel", s -> s.kernel(4, 1));
    }

    private static void dueAll(String what, PictureStudio s, Consumer<PictureStudio> call) {
        seenAll(s);
        int many = s.count(6);
        call.accept(s);
        Check.due(what + ": all are KEPT", s.count(6), many);
    }

    private static void allAreKept() {
        PictureStudio s = Check.canvas(24, 24);
        for (int i = 1; i < 5; i++) {
            s.layer(5, -1, i);
            s.colours(i, 5, 8);
        }
        s.select(1, 0, 0, 0, 0, 0);
        Check.due("a great REACH", s.count(9), 28);
        dueAll("fill", s, t -> t.fill(0, 0));
        dueAll("stroke", s, t -> {
            t.point(40, 40, 255);
            t.stroke(0, 0);
        });
        dueAll("filter", s, t -> t.filter(0, 8, 0));
        dueAll("path", s, t -> t.path(0, 0, 0));
        dueAll("text", s, t -> t.text(0, 0, 0));
        s.select(0, 0, 0, 0, 0, 0);
        dueAll("a filter that leaves all", s, t -> t.filter(0, 0, 4));
        s.front(0);
        dueAll("a fill with nothing", s, t -> t.fill(0, 2));
        dueAll("calls that are no EDITS", s, t -> {
            t.select(3, 0, 0, 0, 0, 0);
            t.reselect(0, 0);
            t.front(1);
            t.brush(1, 1, 2, 1, 1);
            t.source(1, 1);
            t.point(1, 1, 1);
            t.profile(0, 0, 1);
            t.develop(0, 1);
            t.step(0, 0, 1, 1);
            t.glyph(0, 0, 1);
            t.feed(0, 0, 0, 0, 0);
            t.end(0);
            t.hash();
            t.zoomed(1, 0, 0);
            t.made(-1);
        });
    }

    private static void howMany() {
        PictureStudio s = Check.canvas(3, 2);
        Check.due("all", s.fill(0, 0), 6);
        Check.due("none: they are as they were", s.fill(0, 0), 0);
        Check.dot(s, 0, 1, 1, 0xFF0000FF);
        Check.due("FRONT is another now", s.fill(0, 0), 5);
        s.front(0x00FFFFFF);
        Check.due("over with nothing", s.fill(0, 0), 0);
        Check.due("replaced by what isn't there", s.fill(0, 2), 6);
        Check.due("though nothing is seen", s.hash(), 0);
        Check.due("it becomes 0", s.fill(0, 0), 6);
        PictureStudio t = Check.canvas(24, 24);
        Check.due("576", t.fill(0, 0), 576);
        Check.due("turned", t.filter(0, 8, 0), 576);
        s.front(0xFF0000FF);
        Check.box(s, 0, 0, 0, 16, 16);
        s.glyph(1, 0, 0);
        s.glyph(2, 0, 16);
        Check.feedBytes(s, new byte[] {1, 2, 2});
        Check.due("a text that goes over a pixel twice", s.text(0, 0, 0), 2);
    }

    // ---- ZOOMED

    private static void zoomed() {
        int[][] sizes = {{5, 3}, {8, 8}, {1, 1}, {7, 9}, {2, 12}};
        for (int[] size : sizes) {
            int w = size[0];
            int[] colours = random(w, w * size[1]);
            PictureStudio s = Check.studio(w, size[1]);
            Check.picture(s, colours);
            for (int z = 1; z <= 3; z++) {
                for (int y = 0; y << z < size[1]; y++) {
                    for (int x = 0; x << z < w; x++) {
                        Check.dueColour("z " + z + " at " + x + ", " + y + " of " + w, s.zoomed(z, x, y),
                            zoomed(colours, w, z, x, y));
                    }
                }
            }
            Check.due("no TILES", s.count(5), 0);
        }
        PictureStudio a = Check.studio(2, 2);
        Check.picture(a, 0x01FF0000, 0x00FFFFFF, 0, 0);
        Check.dueColour("a 1: A (1 + 2) / 4, but R", a.zoomed(1, 0, 0), 0x00FF0000);
        Check.picture(a, 0x01FF0000, 0x0100FF00, 0, 0);
        a.drop(0);
        Check.dueColour("a 2: A (2 + 2) / 4", a.zoomed(1, 0, 0), 0x01808000);
        a.set(1, 2, 0);
        Check.dueColour("a 0: all 0", a.zoomed(1, 0, 0), 0);
    }

    /** Pixels of what is seen: those that aren't there are 0. */
    private static int zoomed(int[] colours, int w, int z, int x, int y) {
        int side = 1 << z;
        int[] all = new int[64];
        int n = 0;
        for (int i = 0; i < side * side; i++) {
            int px = x * side + i % side;
            int py = y * side + i / side;
            if (px < w && py < colours.length / w) {
                all[n] = colours[py * w + px];
                n++;
            }
        }
        return Told.mean(n, java.util.Arrays.copyOf(all, n));
    }

    private static void zoomedEnds() {
        int[][] sizes = {{1, 1}, {2, 2}, {3, 4}, {8, 7}, {9, 8}, {16, 15}, {17, 16}, {24, 23}, {23, 24}};
        for (int[] size : sizes) {
            PictureStudio s = Check.studio(size[0], size[1]);
            for (int i = 1; i <= 3; i++) {
                int z = i;
                int side = 1 << z;
                int mostX = (size[0] + side - 1) / side - 1;
                int mostY = (size[1] + side - 1) / side - 1;
                Check.taken("the last one", () -> s.zoomed(z, mostX, mostY));
                Check.missing("right of it", () -> s.zoomed(z, mostX + 1, 0));
                Check.missing("below it", () -> s.zoomed(z, 0, mostY + 1));
                Check.missing("left", () -> s.zoomed(z, -1, 0));
                Check.missing("above", () -> s.zoomed(z, 0, -1));
            }
            Check.bad("z 0", () -> s.zoomed(0, 0, 0));
            Check.bad("z 4", () -> s.zoomed(4, 0, 0));
            Check.missing("a place whose pixels wrap around", () -> s.zoomed(3, 1 << 29, 0));
            Check.missing("a place whose pixels wrap around", () -> s.zoomed(1, 0, Integer.MIN_VALUE));
            Check.missing("a place whose pixels wrap around", () -> s.zoomed(2, 1 << 30, 1 << 30));
        }
    }

    // ---- What is told

    private static void dueMissing(String what, int w, int h, java.util.function.BiConsumer<Integer, Integer> call) {
        Check.taken(what + ": the first", () -> call.accept(0, 0));
        Check.taken(what + ": the last", () -> call.accept(w - 1, h - 1));
        int[][] beyond = {{-1, 0}, {0, -1}, {w, 0}, {0, h}, {w, h}, {Integer.MIN_VALUE, 0}, {0, Integer.MIN_VALUE},
            {Integer.MAX_VALUE, 0}, {0, Integer.MAX_VALUE}, {1 << 30, 4}};
        for (int[] place : beyond) {
            Check.missing(what + ": " + place[0] + ", " + place[1], () -> call.accept(place[0], place[1]));
        }
    }

    private static void see() {
        PictureStudio s = Check.studio(5, 3);
        dueMissing("see", 5, 3, (x, y) -> s.see(x, y));
        Check.due("what is missing works out no TILE", s.count(5), 1);
        PictureStudio t = Check.studio(24, 24);
        dueMissing("see", 24, 24, (x, y) -> t.see(x, y));
    }

    private static void hash() {
        PictureStudio one = Check.studio(1, 1);
        one.layer(2, -1, 0);
        one.colours(0, 0x80000001, 0);
        Check.due("of one pixel", one.hash(), 0x80000001);
        int[] colours = random(5, 24 * 23);
        for (int i = 0; i < colours.length; i++) {
            colours[i] |= 0x01000000;
        }
        PictureStudio s = Check.studio(24, 23);
        Check.picture(s, colours);
        Check.due("of all, row by row, wrapping", s.hash(), Check.hash(colours));
        Check.due("no TILES", s.count(5), 0);
    }

    private static void pixel() {
        PictureStudio s = Check.canvas(5, 3);
        Check.dot(s, 0, 4, 2, 0x00123456);
        s.set(0, 4, 3);
        s.set(0, 2, 0);
        dueMissing("pixel", 5, 3, (x, y) -> s.pixel(0, x, y));
        Check.dueColour("before its shift", s.pixel(0, 4, 2), 0x00123456);
        for (int kind = 1; kind < 6; kind++) {
            int l = s.layer(kind, -1, 0);
            Check.missing("KIND " + kind, () -> s.pixel(l, 0, 0));
        }
        Check.missing("LAYER 6", () -> s.pixel(6, 0, 0));
        Check.missing("LAYER -1", () -> s.pixel(-1, 0, 0));
        Check.missing("LAYER 30", () -> s.pixel(30, 0, 0));
    }

    private static void masked() {
        PictureStudio s = Check.studio(5, 3);
        for (int kind = 0; kind < 6; kind++) {
            s.layer(kind, -1, 0);
            int l = kind;
            Check.due("without one", s.masked(l, 4, 2), -1);
            s.mask(l, 3);
            dueMissing("masked", 5, 3, (x, y) -> s.masked(l, x, y));
            Check.due("all 255", s.masked(l, 4, 2), 255);
        }
        Check.missing("LAYER 6", () -> s.masked(6, 0, 0));
        Check.missing("LAYER -1", () -> s.masked(-1, 0, 0));
        Check.missing("LAYER 30", () -> s.masked(30, 0, 0));
    }
}
