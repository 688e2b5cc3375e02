import java.util.Arrays;
import java.util.Random;

/** Boundary cases of changing PIXELS, the BRUSH, PATHS and texts: promises 13, 14, 16, 18, 20, 21, 29 to 32, 37, 38. */
public final class EdgesPaintTest {
    public static void main(String[] args) {
        Check.sentence("then as MODE 0 above (t = s; also with t 0: what isn't there becomes 0).", EdgesPaintTest::over);
        Check.sentence("erase: A = MUL(A, 255 - MUL(c.A, t)). replace: all four samples MIX(b, c, t).", EdgesPaintTest::eraseReplace);
        Check.sentence("the SELECTION's place is that behind the shift (places beyond the DOCUMENT: 0).", EdgesPaintTest::shifted);
        Check.sentence("PIXELS: PUT of FRONT with the SELECTION: how 0 over, 1 erase, 2 replace: how many pixels changed. Bad (other "
            + "KINDS, too), missing.", EdgesPaintTest::fill);
        Check.sentence("PIXELS turned: how 0 left to right, 1 above to below, 2 the pixel x, y is that of y, x (W, H the same, else "
            + "REFUSED). Bad (other KINDS, too), missing.", EdgesPaintTest::turn);
        Check.sentence("PIXELS made greater by n / d (1 .. 16 each): the pixel at x, y is that at ((2 x + 1) d) / (2 n), likewise y "
            + "(beyond: 0);", EdgesPaintTest::scale);
        Check.sentence("a the sum of w A, A = (a + 128) >> 8, R = (the sum of w A R + a / 2) / a .. (a 0: all 0; beyond: 0).",
            EdgesPaintTest::scaleSmoothly);
        Check.sentence("BRUSH: size (1 .. 64, in quarters of a pixel: the radius r), hard (0 .. 255), spacing (2 .. 64 quarters), flow, "
            + "opacity (0 .. 255).", EdgesPaintTest::brush);
        Check.sentence("POINTS: at most 20 (x, y in quarters, -200 .. 200; pressure 0 .. 255).", EdgesPaintTest::points);
        Check.sentence("at each distance d = spacing - rest, + spacing, .. not above L:", EdgesPaintTest::distances);
        Check.sentence("rest is L less the last such d, or rest + L if there was none (0 at first).", EdgesPaintTest::rests);
        Check.sentence("D above R: 0; not above H: 255; else 255 (R - D) / (R - H);", EdgesPaintTest::dabs);
        Check.sentence("cover = cover + MUL(255 - cover, g).", EdgesPaintTest::covers);
        Check.sentence("at x + cx, y + cy (0 beyond);", EdgesPaintTest::cloned);
        Check.sentence("3 soften: replace by FILTER 0 with 1 of it, as it was ahead.", EdgesPaintTest::soften);
        Check.sentence("A stroke on PIXELS along the POINTS (none are there then): how 0 .. 3: how many pixels changed. Bad (other KINDS, "
            + "too), missing; REFUSED: no POINTS.", EdgesPaintTest::stroke);
        Check.sentence("The clone's cx, cy (-100 .. 100). Bad.", EdgesPaintTest::source);
        Check.sentence("`void front(int colour)`: FRONT.", EdgesPaintTest::front);
        Check.sentence("---- 5 PATHS 0 .. 7: at most 40 STEPS:", EdgesPaintTest::steps);
        Check.sentence("REFUSED: a control first, behind a control or as the 40th STEP, a move behind a control;",
            EdgesPaintTest::refusedSteps);
        Check.sentence("a control that is the last one counts for nothing), x, y in sixteenths of a pixel (-2,000 .. 2,000).",
            EdgesPaintTest::lastControl);
        Check.sentence("PATH p gets a STEP (kind 0 .. 2): how many; kind 3: its STEPS go (x, y aren't looked at): 0. Bad; REFUSED as told; "
            + "FULL.", EdgesPaintTest::stepsGo);
        Check.sentence("a move begins a figure (so does the first STEP); each figure is closed by a line to its beginning (when the next "
            + "begins, or at the end).", EdgesPaintTest::figures);
        Check.sentence("points j = 1 .. 8: (p (8 - j)^2 + 2 q j (8 - j) + e j^2) >> 6, lines between.", EdgesPaintTest::curves);
        Check.sentence("if (y0 <= Y) != (y1 <= Y) and the crossing is right of X:", EdgesPaintTest::crossings);
        Check.sentence("In: rule 0: turns not 0, 1: odd. v = (255 how many + 8) / 16.", EdgesPaintTest::rules);
        Check.sentence("PATH p by a rule (0, 1) filled on PIXELS: how many pixels changed. Bad (KIND, p 0 .. 7, rule), missing.",
            EdgesPaintTest::path);
        Check.sentence("GLYPHS: of a byte a PATH and an advance (0 .. 800 sixteenths).", EdgesPaintTest::glyphs);
        Check.sentence("A byte's GLYPH (p -1: none). Bad.", EdgesPaintTest::noGlyph);
        Check.sentence("on each byte (of its first 40) with a GLYPH: its PATH shifted there, filled as said, rule 0; x goes on by its "
            + "advance; others are left out.", EdgesPaintTest::texts);
        Check.sentence("A text on PIXELS from x, y (sixteenths, -2,000 .. 2,000): how many pixels changed. Bad (KIND, too), missing.",
            EdgesPaintTest::textEnds);
        Check.done("EdgesPaintTest");
    }

    /** PIXELS 0 and one LAYER of each other KIND. */
    private static PictureStudio allKinds(int w, int h) {
        PictureStudio s = Check.canvas(w, h);
        for (int kind = 1; kind < 6; kind++) {
            s.layer(kind, -1, kind);
        }
        return s;
    }

    private static void wrongLayers(String what, PictureStudio s, Check.Setting call) {
        for (int l = 1; l < 6; l++) {
            int other = l;
            Check.bad(what + ": KIND " + l, () -> call.give(other));
        }
        for (int l : new int[] {-1, 6, 29, 30, Integer.MIN_VALUE, Integer.MAX_VALUE}) {
            Check.missing(what + ": LAYER " + l, () -> call.give(l));
        }
        Check.due(what + ": no EDIT", s.count(3), 6);
    }

    // ---- PUT

    private static void over() {
        PictureStudio s = Check.studio(4, 1);
        Check.picture(s, 0x00FFFFFF, 0x01FFFFFF, 0x00000001, 0xFF102030);
        s.select(1, 0, 0, 0, 0, 0);
        s.front(0xFF0000FF);
        Check.due("t 0: what isn't there becomes 0", s.fill(0, 0), 2);
        Check.duePixels("t 0", s, 0, 0, 0x01FFFFFF, 0, 0xFF102030);
        s.undo();
        s.select(0, 0, 0, 0, 0, 0);
        s.front(0x000000FF);
        Check.due("c.A 0: likewise", s.fill(0, 0), 2);
        Check.duePixels("c.A 0", s, 0, 0, 0x01FFFFFF, 0, 0xFF102030);
        s.undo();
        s.point(2, 2, 0);
        Check.due("a stroke of no pressure, too", s.stroke(0, 0), 2);
        s.undo();
        Check.due("an empty PATH, too", s.path(0, 0, 0), 2);
        s.undo();
        s.glyph(9, 0, 0);
        Check.feedBytes(s, (byte) 9);
        Check.due("a GLYPH of an empty PATH, too", s.text(0, 0, 0), 2);
        s.undo();
        Check.feedBytes(s, (byte) 8);
        Check.due("not a byte without a GLYPH", s.text(0, 0, 0), 0);
        s.undo();
        int[] fronts = {0x01000000, 0x7F123456, 0x80FFFFFF, 0xFEFF0000, 0xFF00FF00};
        for (int front : fronts) {
            s.front(front);
            s.fill(0, 0);
            int[] olds = {0x00FFFFFF, 0x01FFFFFF, 0x00000001, 0xFF102030};
            for (int x = 0; x < 4; x++) {
                Check.dueColour("over", s.pixel(0, x, 0), Told.over(olds[x], front, front >>> 24, 0));
            }
            s.undo();
        }
    }

    private static void eraseReplace() {
        int[] olds = {0xFF102030, 0x80405060, 0x01FFFFFF, 0x00ABCDEF};
        int[] fronts = {0x00FFFFFF, 0x01FFFFFF, 0x7F000000, 0x80123456, 0xFEFFFFFF, 0xFF000000};
        int[] values = {255, 128, 1, 0};
        PictureStudio s = Check.studio(4, 4);
        int[] colours = new int[16];
        int[] alphas = new int[16];
        for (int i = 0; i < 16; i++) {
            colours[i] = olds[i % 4];
            alphas[i] = values[i / 4] << 24;
        }
        Check.picture(s, colours);
        Check.picture(s, alphas);
        s.select(5, 0, 1, 0, 0, 0);
        for (int front : fronts) {
            s.front(front);
            s.fill(0, 1);
            for (int i = 0; i < 16; i++) {
                int a = Told.mul(colours[i] >>> 24, 255 - Told.mul(front >>> 24, values[i / 4]));
                Check.dueColour("erase by " + Integer.toHexString(front), s.pixel(0, i % 4, i / 4), a << 24 | colours[i] & 0xFFFFFF);
            }
            s.undo();
            s.fill(0, 2);
            for (int i = 0; i < 16; i++) {
                Check.dueColour("replace by " + Integer.toHexString(front), s.pixel(0, i % 4, i / 4),
                    Told.mixed(colours[i], front, values[i / 4]));
            }
            s.undo();
        }
    }

    private static void shifted() {
        int[][] shifts = {{0, 0}, {1, 0}, {-1, 0}, {0, 1}, {0, -1}, {2, 1}, {-2, -1}, {3, 0}, {0, 2}, {64, 0}, {0, -64}};
        for (int[] shift : shifts) {
            for (int call = 0; call < 5; call++) {
                PictureStudio s = Check.canvas(3, 2);
                s.set(0, 4, shift[0]);
                s.set(0, 5, shift[1]);
                s.select(1, 0, 0, 0, 2, 2);
                int[] due = new int[6];
                int many = 0;
                for (int i = 0; i < 6; i++) {
                    int x = i % 3 + shift[0];
                    int y = i / 3 + shift[1];
                    due[i] = x >= 0 && x < 2 && y >= 0 && y < 2 ? call == 2 ? 0x00FFFFFF : 0xFF000000 : 0;
                    many += due[i] == 0 ? 0 : 1;
                }
                Check.due("how many of call " + call, edit(s, call), many);
                Check.duePixels("call " + call + " shifted by " + shift[0] + ", " + shift[1], s, 0, due);
            }
        }
    }

    private static int edit(PictureStudio s, int call) {
        if (call == 0) {
            return s.fill(0, 2);
        }
        if (call == 1) {
            s.brush(64, 255, 2, 255, 255);
            s.point(6, 4, 255);
            return s.stroke(0, 0);
        }
        if (call == 2) {
            return s.filter(0, 8, 0);
        }
        Check.box(s, 0, -160, -160, 160, 160);
        s.glyph(1, 0, 0);
        Check.feedBytes(s, (byte) 1);
        return call == 3 ? s.path(0, 0, 0) : s.text(0, 0, 0);
    }

    private static void fill() {
        PictureStudio s = allKinds(2, 2);
        wrongLayers("fill", s, l -> s.fill(l, 0));
        Check.ends("how", 0, 2, v -> s.fill(0, v));
        Check.bad("how 3, LAYER 6", () -> s.fill(6, 3));
        s.select(1, 0, 0, 0, 0, 0);
        Check.due("nothing is selected", s.fill(0, 0), 0);
        PictureStudio g = Check.canvas(24, 24);
        Check.due("all of 24 by 24", g.fill(0, 2), 576);
        Check.dueColour("the last pixel", g.pixel(0, 23, 23), 0xFF000000);
    }

    private static void front() {
        PictureStudio s = Check.canvas(1, 1);
        for (int c : new int[] {Integer.MIN_VALUE, Integer.MAX_VALUE, -1, 0, 1, 0x00FFFFFF}) {
            s.front(c);
            s.fill(0, 2);
            Check.dueColour("any int", s.pixel(0, 0, 0), c);
        }
        Check.due("no EDIT", s.count(3), 7);
    }

    // ---- turn, scale

    private static int[] numbered(int many) {
        int[] all = new int[many];
        for (int i = 0; i < many; i++) {
            all[i] = i % 5 == 0 ? i + 1 : 0x7F000001 + 997 * i;
        }
        return all;
    }

    private static void turn() {
        PictureStudio s = allKinds(2, 2);
        wrongLayers("turn", s, l -> s.turn(l, 0));
        Check.ends("how", 0, 2, v -> s.turn(0, v));
        for (int[] size : new int[][] {{1, 1}, {1, 2}, {2, 1}, {3, 2}, {4, 4}, {5, 6}, {13, 13}}) {
            int w = size[0];
            int h = size[1];
            int[] colours = numbered(w * h);
            for (int how = 0; how < 3; how++) {
                PictureStudio t = Check.studio(w, h);
                Check.picture(t, colours);
                int k = how;
                if (how == 2 && w != h) {
                    Check.refused(w + " by " + h, () -> t.turn(0, k));
                    Check.duePixels("as it was", t, 0, colours);
                    continue;
                }
                t.set(0, 4, 5);
                t.turn(0, how);
                for (int i = 0; i < w * h; i++) {
                    int x = i % w;
                    int y = i / w;
                    int from = how == 0 ? y * w + w - 1 - x : how == 1 ? (h - 1 - y) * w + x : x * w + y;
                    Check.dueColour("how " + how + ", " + w + " by " + h, t.pixel(0, x, y), colours[from]);
                }
                t.turn(0, how);
                Check.dueColour("twice is none", t.pixel(0, w - 1, 0), colours[w - 1]);
            }
        }
        PictureStudio g = Check.canvas(24, 24);
        Check.dot(g, 0, 23, 0, -1);
        g.turn(0, 2);
        Check.dueColour("24 by 24", g.pixel(0, 0, 23), -1);
    }

    private static void scale() {
        PictureStudio s = allKinds(2, 2);
        wrongLayers("scale", s, l -> s.scale(l, 1, 1, false));
        Check.ends("n", 1, 16, v -> s.scale(0, v, 3, false));
        Check.ends("d", 1, 16, v -> s.scale(0, 3, v, false));
        Check.ends("n, smooth", 1, 16, v -> s.scale(0, v, 3, true));
        Check.ends("d, smooth", 1, 16, v -> s.scale(0, 3, v, true));
        int[][] ways = {{1, 1}, {16, 1}, {1, 16}, {16, 15}, {15, 16}, {2, 3}, {3, 2}, {7, 16}, {16, 16}};
        for (int[] size : new int[][] {{1, 1}, {7, 5}, {24, 24}}) {
            int w = size[0];
            int h = size[1];
            int[] colours = numbered(w * h);
            for (int i = 0; i < colours.length; i++) {
                colours[i] |= 0x01000000;
            }
            for (int[] way : ways) {
                PictureStudio t = Check.studio(w, h);
                Check.picture(t, colours);
                t.scale(0, way[0], way[1], false);
                int[] due = new int[w * h];
                for (int i = 0; i < due.length; i++) {
                    int x = (2 * (i % w) + 1) * way[1] / (2 * way[0]);
                    int y = (2 * (i / w) + 1) * way[1] / (2 * way[0]);
                    due[i] = x < w && y < h ? colours[y * w + x] : 0;
                }
                Check.due("by " + way[0] + " / " + way[1] + " of " + w + " by " + h, t.hash(), Check.hash(due));
            }
        }
    }

    private static int at(int[] colours, int w, int x, int y) {
        return x < 0 || y < 0 || x >= w || y >= colours.length / w ? 0 : colours[y * w + x];
    }

    private static int between(int[] colours, int w, int bigX, int bigY) {
        int x = bigX >> 4;
        int y = bigY >> 4;
        int f = bigX & 15;
        int g = bigY & 15;
        int[] weights = {(16 - f) * (16 - g), f * (16 - g), (16 - f) * g, f * g};
        int a = 0;
        int[] sums = new int[3];
        for (int i = 0; i < 4; i++) {
            int c = at(colours, w, x + i % 2, y + i / 2);
            a += weights[i] * (c >>> 24);
            for (int k = 0; k < 3; k++) {
                sums[k] += weights[i] * (c >>> 24) * Told.sample(c, k);
            }
        }
        return a == 0 ? 0 : Told.colour(a + 128 >> 8, (sums[0] + a / 2) / a, (sums[1] + a / 2) / a, (sums[2] + a / 2) / a);
    }

    private static void scaleSmoothly() {
        Random r = new Random(3);
        int[][] ways = {{1, 1}, {16, 1}, {1, 16}, {16, 15}, {15, 16}, {2, 3}, {3, 2}, {7, 16}, {5, 3}};
        for (int[] size : new int[][] {{1, 1}, {2, 1}, {7, 5}, {11, 10}}) {
            int w = size[0];
            int[] colours = new int[w * size[1]];
            for (int i = 0; i < colours.length; i++) {
                colours[i] = r.nextInt(4) == 0 ? r.nextInt(1 << 25) : r.nextInt();
            }
            for (int[] way : ways) {
                PictureStudio t = Check.studio(w, size[1]);
                Check.picture(t, colours);
                t.scale(0, way[0], way[1], true);
                for (int i = 0; i < colours.length; i++) {
                    int x = (2 * (i % w) + 1) * way[1] * 8 / way[0] - 8;
                    int y = (2 * (i / w) + 1) * way[1] * 8 / way[0] - 8;
                    Check.dueColour("by " + way[0] + " / " + way[1] + " of " + w + " at " + i, t.pixel(0, i % w, i / w),
                        between(colours, w, x, y));
                }
            }
        }
        PictureStudio s = Check.studio(2, 2);
        Check.picture(s, 0x00FFFFFF, 0x00FFFFFF, 0x00FFFFFF, 0x00FFFFFF);
        s.scale(0, 3, 2, true);
        Check.duePixels("a 0: all 0", s, 0, 0, 0, 0, 0);
        PictureStudio f = Check.studio(2, 2);
        Check.picture(f, 0, 0, 0, 0x01D96E37);
        f.scale(0, 5, 6, true);
        // X, Y are 6 8 / 5 - 8 = 1: a weight of 1 for the last one
        Check.dueColour("a 1: A (1 + 128) >> 8 is 0, R as it is", f.pixel(0, 0, 0), 0x00D96E37);
        PictureStudio g = Check.canvas(24, 24);
        g.fill(0, 0);
        g.scale(0, 1, 1, true);
        Check.dueColour("the last pixel of 24 by 24", g.pixel(0, 23, 23), 0xFF000000);
    }

    // ---- The BRUSH

    private static void dueStroke(String what, int w, int h, int[] brush, int... points) {
        PictureStudio s = Check.canvas(w, h);
        s.brush(brush[0], brush[1], brush[2], brush[3], brush[4]);
        for (int i = 0; i < points.length; i += 3) {
            s.point(points[i], points[i + 1], points[i + 2]);
        }
        int[] due = Told.cover(w, h, brush, points);
        int many = 0;
        for (int i = 0; i < due.length; i++) {
            due[i] = Told.mul(due[i], brush[4]) << 24;
            many += due[i] == 0 ? 0 : 1;
        }
        Check.due(what + ": how many", s.stroke(0, 0), many);
        Check.due(what, s.hash(), Check.hash(due));
    }

    private static void brush() {
        PictureStudio s = Check.studio(1, 1);
        Check.ends("size", 1, 64, v -> s.brush(v, 0, 2, 0, 0));
        Check.ends("hard", 0, 255, v -> s.brush(1, v, 2, 0, 0));
        Check.ends("spacing", 2, 64, v -> s.brush(1, 0, v, 0, 0));
        Check.ends("flow", 0, 255, v -> s.brush(1, 0, 2, v, 0));
        Check.ends("opacity", 0, 255, v -> s.brush(1, 0, 2, 0, v));
        int[][] brushes = {{1, 0, 2, 255, 255}, {64, 255, 64, 255, 255}, {64, 0, 2, 1, 255}, {1, 255, 2, 255, 1}, {64, 0, 64, 255, 128},
            {8, 128, 2, 0, 255}, {8, 128, 2, 255, 0}, {2, 1, 3, 254, 254}, {63, 254, 63, 2, 254}};
        for (int[] b : brushes) {
            dueStroke("a BRUSH of " + Arrays.toString(b), 24, 24, b, 46, 46, 255, 10, 90, 0, 94, 2, 128);
            dueStroke("a BRUSH of " + Arrays.toString(b) + " on one pixel", 1, 1, b, 2, 2, 255);
            dueStroke("a BRUSH of " + Arrays.toString(b) + " on one column", 1, 9, b, 2, 10, 255, 2, 20, 90);
            dueStroke("a BRUSH of " + Arrays.toString(b) + " on one row", 9, 1, b, 10, 2, 255, 20, 2, 90);
        }
    }

    private static void points() {
        PictureStudio s = Check.studio(1, 1);
        Check.ends("x", -200, 200, v -> s.point(v, 0, 0));
        Check.ends("y", -200, 200, v -> s.point(0, v, 0));
        Check.ends("pressure", 0, 255, v -> s.point(0, 0, v));
        Check.due("six", s.count(7), 6);
        for (int i = 7; i <= 20; i++) {
            Check.due("how many", s.point(0, 0, 0), i);
        }
        Check.full("the 21st", () -> s.point(0, 0, 0));
        Check.due("20 stay", s.count(7), 20);
        int[] brush = {3, 200, 5, 200, 255};
        int[] twenty = new int[60];
        for (int i = 0; i < 20; i++) {
            twenty[3 * i] = i * 37 % 90;
            twenty[3 * i + 1] = i * 53 % 90;
            twenty[3 * i + 2] = 255 - i * 12;
        }
        dueStroke("twenty POINTS", 24, 24, brush, twenty);
        dueStroke("the ends of x, y", 24, 24, brush, -200, -200, 255, 200, 200, 0, -200, 200, 255, 200, -200, 255);
        dueStroke("pressure 0 to 255", 24, 1, brush, 0, 2, 0, 95, 2, 255);
        dueStroke("pressure 255 to 0", 24, 1, brush, 0, 2, 255, 95, 2, 0);
        dueStroke("no pressure", 3, 3, brush, 6, 6, 0);
    }

    private static void distances() {
        int[] b = {1, 255, 8, 255, 255};
        dueStroke("L 7: none at its end", 8, 1, b, 2, 2, 255, 9, 2, 255);
        dueStroke("L 8: one at its end", 8, 1, b, 2, 2, 255, 10, 2, 255);
        dueStroke("L 9: one before its end", 8, 1, b, 2, 2, 255, 11, 2, 255);
        dueStroke("L 0", 8, 1, b, 2, 2, 255, 2, 2, 255, 2, 2, 255);
        PictureStudio s = Check.canvas(8, 1);
        s.brush(1, 255, 8, 255, 255);
        s.point(2, 2, 255);
        s.point(10, 2, 255);
        Check.due("DABS at 0 and 8", s.stroke(0, 0), 2);
        s.undo();
        s.point(2, 2, 255);
        s.point(9, 2, 255);
        Check.due("a DAB at 0 alone", s.stroke(0, 0), 1);
        Random r = new Random(11);
        for (int i = 0; i < 60; i++) {
            int[] brush = {1 + r.nextInt(12), r.nextInt(256), 2 + r.nextInt(20), r.nextInt(256), r.nextInt(256)};
            int[] points = new int[3 * (1 + r.nextInt(6))];
            for (int k = 0; k < points.length; k++) {
                points[k] = k % 3 == 2 ? r.nextInt(256) : r.nextInt(90) - 10;
            }
            dueStroke("stroke " + i, 18, 14, brush, points);
        }
    }

    private static void rests() {
        int[] b = {1, 255, 6, 128, 255};
        // DABS at 2 and 8, 2 left: the next ones 4 and 10 behind 10, then none is left
        dueStroke("what is left of a line goes on", 8, 1, b, 2, 2, 255, 10, 2, 255, 24, 2, 255, 30, 2, 255);
        dueStroke("none on a short line: it is gathered", 8, 1, b, 2, 2, 255, 4, 2, 255, 6, 2, 255, 8, 2, 255, 14, 2, 255);
        dueStroke("to and fro", 8, 1, b, 2, 2, 255, 9, 2, 255, 2, 2, 255, 9, 2, 255, 2, 2, 255);
        dueStroke("L 0 leaves it", 8, 1, b, 2, 2, 255, 6, 2, 255, 6, 2, 255, 8, 2, 255);
        PictureStudio s = Check.canvas(8, 1);
        s.brush(1, 255, 8, 255, 255);
        // from 2: a DAB at 10, 5 left at 15; the next one 3 behind 15, at 18
        s.point(2, 2, 255);
        s.point(15, 2, 255);
        s.point(20, 2, 255);
        Check.due("DABS at 2, 10, 18", s.stroke(0, 0), 3);
        Check.dueColour("18 is the middle of the fifth pixel", s.pixel(0, 4, 0), 0xFF000000);
        s.undo();
        s.point(6, 2, 255);
        s.point(10, 2, 255);
        s.point(14, 2, 255);
        Check.due("4 and 4 gathered: a DAB at 14", s.stroke(0, 0), 2);
        s.undo();
        s.point(6, 2, 255);
        s.stroke(0, 0);
        s.point(2, 2, 255);
        s.point(9, 2, 255);
        s.stroke(0, 0);
        s.point(14, 2, 255);
        s.point(15, 2, 255);
        Check.due("a new stroke has 0 at first", s.stroke(0, 0), 1);
    }

    private static void dabs() {
        for (int size : new int[] {1, 2, 5, 16, 64}) {
            for (int hard : new int[] {0, 1, 127, 128, 254, 255}) {
                dueStroke("size " + size + ", hard " + hard, 15, 13, new int[] {size, hard, 2, 255, 255}, 29, 26, 255);
            }
        }
        PictureStudio s = Check.canvas(3, 1);
        s.brush(4, 255, 2, 255, 255);
        s.point(6, 2, 255);
        Check.due("D 16 isn't above R 16", s.stroke(0, 0), 3);
        s.undo();
        s.brush(3, 255, 2, 255, 255);
        s.point(6, 2, 255);
        Check.due("D 16 is above R 12", s.stroke(0, 0), 1);
        s.undo();
        s.brush(8, 127, 2, 255, 255);
        s.point(6, 2, 255);
        s.stroke(0, 0);
        // H = 32 127 / 255 = 15
        Check.dueColour("above H: 255 16 / 17", s.pixel(0, 0, 0), 240 << 24);
        s.undo();
        s.brush(8, 128, 2, 255, 255);
        s.point(6, 2, 255);
        s.stroke(0, 0);
        Check.dueColour("D 16 isn't above H 16", s.pixel(0, 0, 0), 0xFF000000);
        s.undo();
        s.brush(4, 0, 2, 255, 255);
        s.point(6, 2, 255);
        Check.due("D is R and not hard: 0", s.stroke(0, 0), 1);
    }

    private static void covers() {
        for (int flow : new int[] {1, 2, 127, 128, 254, 255}) {
            int[] points = new int[60];
            for (int i = 0; i < 60; i += 3) {
                points[i] = 6 + i % 2 * 4;
                points[i + 1] = 2;
                points[i + 2] = 255;
            }
            dueStroke("many DABS of " + flow, 3, 1, new int[] {4, 100, 2, flow, 255}, points);
        }
    }

    private static void cloned() {
        int[] colours = numbered(12);
        for (int[] from : new int[][] {{0, 0}, {1, 0}, {-1, 0}, {0, 1}, {0, -1}, {4, 0}, {3, 2}, {-3, -2}, {100, 100}, {-100, -100},
            {100, -100}}) {
            PictureStudio s = Check.studio(4, 3);
            Check.picture(s, colours);
            s.source(from[0], from[1]);
            s.brush(64, 255, 2, 255, 255);
            s.point(8, 6, 255);
            s.set(0, 4, 0);
            s.stroke(0, 2);
            for (int i = 0; i < 12; i++) {
                int c = at(colours, 4, i % 4 + from[0], i / 4 + from[1]);
                Check.dueColour("from " + from[0] + ", " + from[1], s.pixel(0, i % 4, i / 4),
                    Told.over(colours[i], c, c >>> 24, 0));
            }
        }
    }

    private static void soften() {
        int[] colours = numbered(12);
        int[] soft = Told.filter(0, 1, colours, 4, null);
        for (int flow : new int[] {0, 1, 128, 255}) {
            PictureStudio s = Check.studio(4, 3);
            Check.picture(s, colours);
            s.brush(64, 255, 2, flow, 255);
            s.point(8, 6, 255);
            s.stroke(0, 3);
            for (int i = 0; i < 12; i++) {
                Check.dueColour("flow " + flow, s.pixel(0, i % 4, i / 4), Told.mixed(colours[i], soft[i], flow));
            }
        }
    }

    private static void stroke() {
        PictureStudio s = allKinds(2, 2);
        Check.refused("no POINTS", () -> s.stroke(0, 0));
        s.point(4, 4, 255);
        wrongLayers("stroke", s, l -> s.stroke(l, 0));
        Check.due("what throws leaves the POINTS", s.count(7), 1);
        Check.ends("how", 0, 3, v -> {
            if (s.count(7) == 0) {
                s.point(4, 4, 255);
            }
            s.stroke(0, v);
        });
        s.stroke(0, 3);
        Check.due("none are there then", s.count(7), 0);
        Check.refused("no POINTS again", () -> s.stroke(0, 3));
        Check.bad("how -1 without POINTS", () -> s.stroke(0, -1));
        PictureStudio g = Check.canvas(24, 24);
        g.brush(64, 255, 2, 255, 255);
        g.point(24, 24, 255);
        g.point(72, 72, 255);
        g.stroke(0, 0);
        Check.dueColour("the last pixel", g.pixel(0, 23, 23), 0xFF000000);
    }

    private static void source() {
        PictureStudio s = Check.studio(1, 1);
        Check.ends("cx", -100, 100, v -> s.source(v, 0));
        Check.ends("cy", -100, 100, v -> s.source(0, v));
        PictureStudio t = Check.canvas(2, 2);
        Check.paint(t, 0, 0xFF000001, 0xFF000002, 0xFF000003, 0xFF000004);
        t.source(1, 1);
        Check.bad("cx 101", () -> t.source(101, 0));
        Check.bad("cy -101", () -> t.source(0, -101));
        t.point(2, 2, 255);
        t.brush(1, 255, 2, 255, 255);
        t.stroke(0, 2);
        Check.dueColour("as it was", t.pixel(0, 0, 0), 0xFF000004);
    }

    // ---- PATHS

    private static void steps() {
        PictureStudio s = Check.studio(1, 1);
        Check.ends("PATH", 0, 7, v -> s.step(v, 0, 0, 0));
        s.step(7, 3, 0, 0);
        for (int i = 1; i <= 40; i++) {
            Check.due("how many", s.step(7, i % 3 == 0 ? 0 : 1, i, -i), i);
        }
        for (int kind = 0; kind < 3; kind++) {
            int k = kind;
            Check.full("a 41st of kind " + kind, () -> s.step(7, k, 0, 0));
        }
        Check.due("another PATH has its own", s.step(6, 0, 0, 0), 1);
        Check.due("its STEPS go", s.step(7, 3, 0, 0), 0);
        Check.due("then there is room", s.step(7, 0, 0, 0), 1);
        PictureStudio g = Check.canvas(24, 24);
        for (int i = 0; i < 20; i++) {
            g.step(0, i == 0 ? 0 : 1, i % 2 * 384, 16 * i);
            g.step(0, 1, 384 - i % 2 * 384, 16 * i);
        }
        int[] corners = new int[80];
        for (int i = 0; i < 20; i++) {
            corners[4 * i] = i % 2 * 384;
            corners[4 * i + 1] = 16 * i;
            corners[4 * i + 2] = 384 - i % 2 * 384;
            corners[4 * i + 3] = 16 * i;
        }
        g.path(0, 0, 1);
        duePath("forty STEPS", g, 1, corners);
    }

    private static void refusedSteps() {
        PictureStudio s = Check.studio(1, 1);
        Check.refused("a control first", () -> s.step(0, 2, 0, 0));
        Check.due("a move first", s.step(0, 0, 0, 0), 1);
        Check.due("a control behind a move", s.step(0, 2, 0, 0), 2);
        Check.refused("a control behind a control", () -> s.step(0, 2, 0, 0));
        Check.refused("a move behind a control", () -> s.step(0, 0, 0, 0));
        Check.due("a line behind a control", s.step(0, 1, 0, 0), 3);
        Check.due("a control behind a line", s.step(0, 2, 0, 0), 4);
        for (int i = 5; i < 38; i++) {
            s.step(0, 1, 0, 0);
        }
        Check.due("37", s.step(1, 0, 0, 0), 1);
        Check.due("a control as the 38th", s.step(0, 2, 0, 0), 38);
        Check.due("a line as the 39th", s.step(0, 1, 0, 0), 39);
        Check.refused("a control as the 40th", () -> s.step(0, 2, 0, 0));
        Check.due("a move as the 40th", s.step(0, 0, 0, 0), 40);
        PictureStudio t = Check.studio(1, 1);
        for (int i = 1; i < 39; i++) {
            t.step(0, 1, 0, 0);
        }
        Check.due("a control as the 39th", t.step(0, 2, 0, 0), 39);
        Check.refused("a control as the 40th behind it", () -> t.step(0, 2, 0, 0));
        Check.refused("a move as the 40th behind it", () -> t.step(0, 0, 0, 0));
        Check.due("a line as the 40th behind it", t.step(0, 1, 0, 0), 40);
        t.step(0, 3, 0, 0);
        Check.refused("a control first again", () -> t.step(0, 2, 0, 0));
        t.step(0, 1, 0, 0);
        t.step(0, 2, 0, 0);
        t.step(0, 3, 0, 0);
        Check.due("a move first, the control is gone", t.step(0, 0, 0, 0), 1);
    }

    private static void duePath(String what, PictureStudio s, int rule, int[]... figures) {
        int w = s.count(0);
        int[] due = new int[w * s.count(1)];
        for (int i = 0; i < due.length; i++) {
            due[i] = Told.covered(i % w, i / w, rule, figures) << 24;
        }
        Check.due(what, s.hash(), Check.hash(due));
    }

    private static void lastControl() {
        PictureStudio s = Check.canvas(4, 4);
        s.step(0, 0, 3, 3);
        s.step(0, 1, 60, 5);
        s.step(0, 1, 40, 61);
        s.step(0, 2, -2000, 2000);
        s.path(0, 0, 0);
        duePath("as if it weren't there", s, 0, new int[] {3, 3, 60, 5, 40, 61});
        s.undo();
        s.step(0, 1, 0, 60);
        s.path(0, 0, 0);
        Check.due("with a line behind it counts", s.hash() == Check.hash(new int[16]) ? 1 : 0, 0);
        PictureStudio t = Check.studio(1, 1);
        Check.ends("x", -2000, 2000, v -> t.step(0, 0, v, 0));
        Check.ends("y", -2000, 2000, v -> t.step(0, 0, 0, v));
        Check.ends("x of a control", -2000, 2000, v -> {
            t.step(1, 3, 0, 0);
            t.step(1, 0, 0, 0);
            t.step(1, 2, v, 0);
        });
        PictureStudio far = Check.canvas(24, 24);
        far.step(0, 0, -2000, -2000);
        far.step(0, 1, 2000, -1999);
        far.step(0, 1, 1999, 2000);
        far.path(0, 0, 0);
        duePath("corners as far as may be", far, 0, new int[] {-2000, -2000, 2000, -1999, 1999, 2000});
    }

    private static void stepsGo() {
        PictureStudio s = Check.canvas(2, 1);
        Check.due("of none", s.step(0, 3, 0, 0), 0);
        s.step(0, 0, 0, 0);
        s.step(0, 1, 32, 0);
        s.step(0, 1, 32, 32);
        Check.due("x, y aren't looked at", s.step(0, 3, Integer.MIN_VALUE, Integer.MAX_VALUE), 0);
        Check.due("an empty PATH", s.path(0, 0, 0), 0);
        PictureStudio t = Check.canvas(4, 4);
        for (int p = 0; p < 2; p++) {
            for (int i = 0; i < 8; i++) {
                t.step(p, i == 0 ? 0 : 1, i * 29 % 64, i * 45 % 64);
            }
        }
        t.step(0, 3, 0, 0);
        int[] corners = {3, 5, 60, 9, 20, 61};
        for (int i = 0; i < 6; i += 2) {
            t.step(0, 1, corners[i], corners[i + 1]);
        }
        t.path(0, 0, 0);
        duePath("nothing of those that went", t, 0, corners);
        Check.bad("PATH 8", () -> s.step(8, 3, 0, 0));
        Check.bad("PATH -1", () -> s.step(-1, 3, 0, 0));
        Check.bad("kind 4", () -> s.step(0, 4, 0, 0));
        Check.bad("kind -1", () -> s.step(0, -1, 0, 0));
    }

    private static void figures() {
        PictureStudio s = Check.canvas(4, 3);
        s.step(0, 1, 5, 1);
        s.step(0, 1, 60, 9);
        s.step(0, 1, 33, 40);
        s.step(0, 0, 1, 47);
        s.step(0, 1, 63, 47);
        s.step(0, 1, 20, 20);
        s.path(0, 0, 1);
        duePath("a line first, two figures", s, 1, new int[] {5, 1, 60, 9, 33, 40}, new int[] {1, 47, 63, 47, 20, 20});
        s.undo();
        s.step(1, 0, 9, 9);
        s.step(1, 0, 5, 5);
        s.step(1, 0, 40, 6);
        s.step(1, 1, 55, 44);
        s.step(1, 1, 3, 30);
        s.step(1, 0, 60, 60);
        s.path(0, 1, 0);
        duePath("moves without lines", s, 0, new int[] {40, 6, 55, 44, 3, 30});
        s.undo();
        s.step(2, 0, 0, 0);
        s.path(0, 2, 0);
        duePath("just one STEP", s, 0);
        s.undo();
        s.step(2, 1, 64, 48);
        s.path(0, 2, 0);
        duePath("one line and back", s, 0);
    }

    private static int[] curve(int px, int py, int qx, int qy, int ex, int ey, int... rest) {
        int[] all = new int[18 + rest.length];
        all[0] = px;
        all[1] = py;
        for (int j = 1; j <= 8; j++) {
            int k = 8 - j;
            all[2 * j] = Math.floorDiv(px * k * k + 2 * qx * j * k + ex * j * j, 64);
            all[2 * j + 1] = Math.floorDiv(py * k * k + 2 * qy * j * k + ey * j * j, 64);
        }
        System.arraycopy(rest, 0, all, 18, rest.length);
        return all;
    }

    private static void curves() {
        Random r = new Random(17);
        for (int i = 0; i < 40; i++) {
            int[] v = new int[8];
            for (int k = 0; k < 8; k++) {
                v[k] = i < 20 ? r.nextInt(200) - 20 : r.nextInt(1000) - 500;
            }
            PictureStudio s = Check.canvas(10, 10);
            s.step(3, 0, v[0], v[1]);
            s.step(3, 2, v[2], v[3]);
            s.step(3, 1, v[4], v[5]);
            s.step(3, 1, v[6], v[7]);
            s.path(0, 3, i % 2);
            duePath("curve " + i, s, i % 2, curve(v[0], v[1], v[2], v[3], v[4], v[5], v[6], v[7]));
        }
        PictureStudio t = Check.canvas(6, 6);
        t.step(0, 0, 10, 10);
        t.step(0, 2, 90, -20);
        t.step(0, 1, 80, 80);
        t.step(0, 2, 5, 120);
        t.step(0, 1, -9, 33);
        t.path(0, 0, 0);
        int[] first = curve(10, 10, 90, -20, 80, 80);
        int[] second = curve(80, 80, 5, 120, -9, 33);
        int[] both = Arrays.copyOf(first, 36);
        System.arraycopy(second, 0, both, 18, 18);
        duePath("a curve behind a curve", t, 0, both);
    }

    private static void crossings() {
        // points of the first pixel are at 2, 6, 10, 14
        int[][] boxes = {{2, 2, 3, 3}, {1, 1, 2, 2}, {1, 1, 3, 3}, {2, 2, 6, 6}, {3, 2, 7, 6}, {2, 3, 6, 7}, {3, 3, 6, 6}, {14, 14, 18, 18},
            {15, 15, 18, 18}, {-5, -5, 2, 20}, {-5, -5, 3, 20}, {-5, 2, 50, 3}, {-5, 1, 50, 2}};
        int[] many = {1, 0, 1, 1, 1, 1, 0, 1, 0, 0, 4, 4, 0};
        for (int i = 0; i < boxes.length; i++) {
            int[] b = boxes[i];
            for (int turned = 0; turned < 2; turned++) {
                PictureStudio s = Check.canvas(1, 1);
                s.step(0, 0, b[0], b[1]);
                s.step(0, 1, turned == 0 ? b[2] : b[0], turned == 0 ? b[1] : b[3]);
                s.step(0, 1, b[2], b[3]);
                s.step(0, 1, turned == 0 ? b[0] : b[2], turned == 0 ? b[3] : b[1]);
                s.path(0, 0, 0);
                Check.due("points in the box " + Arrays.toString(b), s.pixel(0, 0, 0) >>> 24, (255 * many[i] + 8) / 16);
            }
        }
        Random r = new Random(23);
        for (int i = 0; i < 60; i++) {
            int[] corners = new int[6 + 2 * r.nextInt(4)];
            for (int k = 0; k < corners.length; k++) {
                corners[k] = i < 30 ? 2 + 4 * r.nextInt(20) : r.nextInt(100) - 10;
            }
            PictureStudio s = Check.canvas(5, 5);
            for (int k = 0; k < corners.length; k += 2) {
                s.step(0, k == 0 ? 0 : 1, corners[k], corners[k + 1]);
            }
            s.path(0, 0, i % 2);
            duePath("corners " + Arrays.toString(corners), s, i % 2, corners);
        }
    }

    private static void rules() {
        int[] box = {0, 0, 32, 0, 32, 32, 0, 32};
        int[] back = {0, 32, 32, 32, 32, 0, 0, 0};
        int[][] times = {{1, 0}, {2, 0}, {3, 0}, {1, 1}, {2, 1}, {1, 2}, {0, 2}, {0, 3}};
        for (int[] t : times) {
            for (int rule = 0; rule < 2; rule++) {
                PictureStudio s = Check.canvas(3, 3);
                int[][] figures = new int[t[0] + t[1]][];
                for (int i = 0; i < figures.length; i++) {
                    figures[i] = i < t[0] ? box : back;
                    for (int k = 0; k < 8; k += 2) {
                        s.step(0, k == 0 ? 0 : 1, figures[i][k], figures[i][k + 1]);
                    }
                }
                int turns = t[0] - t[1];
                boolean in = rule == 0 ? turns != 0 : turns % 2 != 0;
                Check.due("rule " + rule + " of turns " + turns, s.path(0, 0, rule), in ? 4 : 0);
                duePath("rule " + rule + " of turns " + turns, s, rule, figures);
            }
        }
        for (int n = 0; n <= 16; n++) {
            PictureStudio s = Check.canvas(1, 1);
            for (int i = 0; i < n && i < 10; i++) {
                square(s, 0, i % 4 * 4, i / 4 * 4);
            }
            for (int i = 10; i < n; i++) {
                square(s, 1, i % 4 * 4, i / 4 * 4);
            }
            s.path(0, 0, 0);
            int first = Told.over(0, 0xFF000000, (255 * Math.min(n, 10) + 8) / 16, 0);
            Check.dueColour(n + " points", s.pixel(0, 0, 0), first);
            s.path(0, 1, 0);
            int second = n < 10 ? 0 : (255 * (n - 10) + 8) / 16;
            Check.dueColour(n + " points, in two PATHS", s.pixel(0, 0, 0), Told.over(first, 0xFF000000, second, 0));
        }
        PictureStudio p = Check.canvas(1, 1);
        Check.box(p, 0, 0, 0, 16, 16);
        p.path(0, 0, 0);
        Check.dueColour("sixteen points: 255", p.pixel(0, 0, 0), 0xFF000000);
    }

    private static void square(PictureStudio s, int p, int x, int y) {
        Check.box(s, p, x, y, x + 4, y + 4);
    }

    private static void path() {
        PictureStudio s = allKinds(2, 2);
        wrongLayers("path", s, l -> s.path(l, 0, 0));
        Check.ends("p", 0, 7, v -> s.path(0, v, 0));
        Check.ends("rule", 0, 1, v -> s.path(0, 0, v));
        PictureStudio g = Check.canvas(24, 24);
        Check.box(g, 7, 0, 0, 384, 384);
        Check.due("all of 24 by 24", g.path(0, 7, 1), 576);
        g.undo();
        Check.box(g, 6, 368, 368, 384, 384);
        Check.due("the last pixel alone, nothing of the PATH before", g.path(0, 6, 1), 1);
        Check.dueColour("the last pixel", g.pixel(0, 23, 23), 0xFF000000);
    }

    // ---- Texts

    private static void pixelGlyph(PictureStudio s, int b, int p, int advance) {
        s.step(p, 3, 0, 0);
        Check.box(s, p, 0, 0, 16, 16);
        s.glyph(b, p, advance);
    }

    private static void glyphs() {
        PictureStudio s = Check.studio(1, 1);
        Check.ends("byte", 0, 255, v -> s.glyph(v, 0, 0));
        Check.ends("PATH", -1, 7, v -> s.glyph(0, v, 0));
        Check.ends("advance", 0, 800, v -> s.glyph(0, 0, v));
        Check.bad("advance 801 of none", () -> s.glyph(0, -1, 801));
        PictureStudio t = Check.canvas(24, 1);
        pixelGlyph(t, 0, 0, 0);
        pixelGlyph(t, 255, 7, 16);
        Check.feedBytes(t, new byte[] {-1, 0, -1, 0});
        Check.due("bytes 0 and 255, advances 0 and 16", t.text(0, 0, 0), 3);
        Check.duePixels("bytes 0 and 255", t, 0, 0xFF000000, 0xFF000000, 0xFF000000, 0);
        t.undo();
        t.glyph(255, 7, 800);
        Check.feedBytes(t, new byte[] {-1, 0});
        t.text(0, -800, 0);
        Check.duePixels("an advance of 800", t, 0, 0xFF000000, 0);
        t.undo();
        Check.feedBytes(t, new byte[] {-1, 0});
        t.text(0, -784, 0);
        Check.duePixels("an advance of 800", t, 0, 0, 0xFF000000);
    }

    private static void noGlyph() {
        PictureStudio s = Check.canvas(3, 1);
        pixelGlyph(s, 65, 0, 16);
        s.glyph(66, 0, 16);
        s.glyph(66, -1, 16);
        Check.feedBytes(s, (byte) 66, (byte) 65);
        Check.due("none has no advance", s.text(0, 0, 0), 1);
        Check.duePixels("none has no advance", s, 0, 0xFF000000, 0, 0);
        s.glyph(66, 0, 32);
        s.undo();
        Check.feedBytes(s, (byte) 66, (byte) 65);
        Check.due("again one", s.text(0, 0, 0), 2);
        Check.duePixels("again one", s, 0, 0xFF000000, 0, 0xFF000000);
    }

    private static void texts() {
        PictureStudio s = Check.canvas(24, 2);
        pixelGlyph(s, 1, 0, 8);
        byte[] bytes = new byte[60];
        Arrays.fill(bytes, (byte) 1);
        Check.feedBytes(s, bytes);
        // forty GLYPHS, each half a pixel further: the last one ends at 20.5
        Check.due("of sixty bytes forty", s.text(0, 0, 0), 21);
        Check.dueColour("the last half", s.pixel(0, 20, 0), 0x80000000);
        s.undo();
        Check.feedBytes(s, Arrays.copyOf(bytes, 40));
        Check.due("forty", s.text(0, 0, 0), 21);
        s.undo();
        Check.feedBytes(s, Arrays.copyOf(bytes, 39));
        Check.due("39", s.text(0, 0, 0), 20);
        s.undo();
        bytes = new byte[41];
        bytes[40] = 1;
        Check.feedBytes(s, bytes);
        Check.due("bytes without a GLYPH count among the forty", s.text(0, 0, 0), 0);
        s.undo();
        Check.due("a text of nothing", s.text(0, 0, 0), 0);
        Check.due("is an EDIT", s.count(3), 2);
        s.undo();
        s.front(0x80000000);
        s.glyph(2, 0, 0);
        Check.feedBytes(s, new byte[] {2, 2, 2});
        s.text(0, 16, 16);
        int due = 0;
        for (int i = 0; i < 3; i++) {
            due = Told.over(due, 0x80000000, 128, 0);
        }
        Check.dueColour("each is filled for itself", s.pixel(0, 1, 1), due);
        s.undo();
        s.front(0xFF000000);
        Check.box(s, 3, 0, 0, 16, 16);
        Check.box(s, 3, 0, 0, 16, 16);
        s.glyph(3, 3, 0);
        Check.feedBytes(s, new byte[] {3});
        Check.due("rule 0", s.text(0, 0, 0), 1);
        PictureStudio c = Check.canvas(6, 6);
        c.step(0, 0, -5, 7);
        c.step(0, 2, 51, -40);
        c.step(0, 1, 45, 31);
        c.glyph(9, 0, 0);
        Check.feedBytes(c, (byte) 9);
        c.text(0, 21, 33);
        duePath("a curve shifted", c, 0, curve(16, 40, 72, -7, 66, 64));
    }

    private static void textEnds() {
        PictureStudio s = allKinds(2, 2);
        wrongLayers("text", s, l -> s.text(l, 0, 0));
        Check.ends("x", -2000, 2000, v -> s.text(0, v, 0));
        Check.ends("y", -2000, 2000, v -> s.text(0, 0, v));
        PictureStudio t = Check.canvas(2, 1);
        Check.box(t, 0, 1984, 1984, 2000, 2000);
        t.glyph(1, 0, 0);
        Check.feedBytes(t, (byte) 1);
        t.text(0, -1984, -1984);
        Check.duePixels("from far left above", t, 0, 0xFF000000, 0);
        Check.feedBytes(t, (byte) 1);
        Check.due("farther", t.text(0, -2000, -1984), 0);
        t.glyph(1, 0, 800);
        byte[] all = new byte[40];
        Arrays.fill(all, (byte) 1);
        Check.feedBytes(t, all);
        Check.due("as far right as may be", t.text(0, 2000, 2000), 0);
    }
}
