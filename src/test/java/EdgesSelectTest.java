import java.util.Arrays;
import java.util.Random;

/** Boundary cases of the SELECTION: promises 26 to 28. */
public final class EdgesSelectTest {
    public static void main(String[] args) {
        Check.sentence("SELECTION: W by H values of 0 .. 255, all 255 at first.", EdgesSelectTest::atFirst);
        Check.sentence("how 0 it is v; 1 the greater of both; 2 old - v, at least 0; 3 the lesser.", EdgesSelectTest::ways);
        Check.sentence("SHAPES: 0 all 255; 1 a box (a, b) with c by d pixels: 255 in it, else 0;", EdgesSelectTest::boxes);
        Check.sentence("it is in if c, d are above 0 and u^2 E^2 + v^2 D^2 <= D^2 E^2 (longs); v = (255 how many + 8) / 16;",
            EdgesSelectTest::ellipses);
        Check.sentence("3 the wand: from (a, b) on all pixels that can be come to by steps left, right, up, down over pixels of what "
            + "is seen,", EdgesSelectTest::wandSteps);
        Check.sentence("none of whose four samples differs by more than c from those at (a, b): 255, else 0; 4 likewise without steps;",
            EdgesSelectTest::wandDiffers);
        Check.sentence("5 the A of LAYER a's own pixels, shifted (PIXELS);", EdgesSelectTest::alphas);
        Check.sentence("6 PATH a by rule b (as 5 tells).", EdgesSelectTest::paths);
        Check.sentence("turned: 255 - v.", EdgesSelectTest::turned);
        Check.sentence("grown by n (1 .. 8): the greatest in the square of 2 n + 1 (places that there are);", EdgesSelectTest::grown);
        Check.sentence("shrunk: the least (places outside are 0).", EdgesSelectTest::shrunk);
        Check.sentence("softened by n (1 .. 8): twice: the mean of that square (places outside are the nearest), (sum + m / 2) / m, "
            + "m = (2 n + 1)^2.", EdgesSelectTest::softened);
        Check.sentence("SELECTION: a shape (0 .. 6), a way (0 .. 3), a, b, c, d (-100 .. 100 each; a box's c, d 0 .. 100; wand: a place "
            + "of the DOCUMENT, c 0 .. 255; 5: LAYER a; 6: PATH a, rule b): how many of its values are above 0. Bad; missing "
            + "(LAYER; no PIXELS, too).", EdgesSelectTest::selectEnds);
        Check.sentence("SELECTION: how 0 turned, 1 grown, 2 shrunk, 3 softened by n (turned: 0): how many of its values are above 0. "
            + "Bad.", EdgesSelectTest::reselectEnds);
        Check.sentence("The SELECTION at x, y. Missing.", EdgesSelectTest::selected);
        Check.done("EdgesSelectTest");
    }

    /** Told by a fill of an empty LAYER: its A becomes the SELECTION, and hash tells all of it at once. */
    private static void dueSelection(String what, PictureStudio s, int... values) {
        int l = s.layer(0, -1, s.about(0, 2) + 1);
        s.front(0xFF000000);
        s.fill(l, 2);
        int[] due = new int[values.length];
        for (int i = 0; i < due.length; i++) {
            due[i] = values[i] << 24;
        }
        Check.due(what, s.hash(), Check.hash(due));
        s.undo();
        s.undo();
    }

    /** A studio with an empty LAYER of PIXELS that is the SELECTION's paper. */
    private static PictureStudio paper(int w, int h) {
        return Check.canvas(w, h);
    }

    private static int above(int[] values) {
        int many = 0;
        for (int v : values) {
            many += v > 0 ? 1 : 0;
        }
        return many;
    }

    private static void atFirst() {
        int[][] sizes = {{1, 1}, {24, 24}, {1, 24}, {24, 1}, {8, 8}};
        for (int[] size : sizes) {
            int[] all = new int[size[0] * size[1]];
            Arrays.fill(all, 255);
            dueSelection("all 255", paper(size[0], size[1]), all);
        }
    }

    /** Sets the SELECTION to any values, as the A of a LAYER. */
    private static void give(PictureStudio s, int... values) {
        int[] colours = new int[values.length];
        for (int i = 0; i < values.length; i++) {
            colours[i] = values[i] << 24;
        }
        int l = Check.picture(s, colours);
        Check.due("how many are above 0", s.select(5, 0, l, 0, 0, 0), above(values));
        s.drop(l);
    }

    private static void ways() {
        int[] olds = {0, 0, 0, 1, 1, 1, 127, 127, 128, 128, 254, 254, 255, 255, 255, 100};
        int[] shapes = {0, 1, 255, 0, 1, 2, 127, 128, 127, 129, 255, 253, 0, 254, 255, 30};
        for (int way = 0; way < 4; way++) {
            PictureStudio s = paper(4, 4);
            give(s, olds);
            int[] colours = new int[16];
            int[] due = new int[16];
            for (int i = 0; i < 16; i++) {
                colours[i] = shapes[i] << 24;
                int[] each = {shapes[i], Math.max(olds[i], shapes[i]), Math.max(0, olds[i] - shapes[i]),
                    Math.min(olds[i], shapes[i])};
                due[i] = each[way];
            }
            int l = Check.picture(s, colours);
            Check.due("way " + way + ": how many", s.select(5, way, l, 0, 0, 0), above(due));
            s.drop(l);
            dueSelection("way " + way, s, due);
        }
    }

    private static void dueBox(int w, int h, int a, int b, int c, int d) {
        PictureStudio s = paper(w, h);
        int[] due = new int[w * h];
        for (int i = 0; i < due.length; i++) {
            int x = i % w;
            int y = i / w;
            due[i] = x >= a && x < a + c && y >= b && y < b + d ? 255 : 0;
        }
        String what = "a box at " + a + ", " + b + " of " + c + " by " + d;
        Check.due(what + ": how many", s.select(1, 0, a, b, c, d), above(due));
        dueSelection(what, s, due);
    }

    private static void boxes() {
        for (int[] size : new int[][] {{1, 1}, {5, 4}, {24, 24}}) {
            PictureStudio s = paper(size[0], size[1]);
            s.reselect(0, 0);
            Check.due("0 all 255", s.select(0, 0, 0, 0, 0, 0), size[0] * size[1]);
            Check.due("all", s.select(1, 0, 0, 0, size[0], size[1]), size[0] * size[1]);
            Check.due("all and more", s.select(1, 0, -50, -50, 100, 100), size[0] * size[1]);
            Check.due("c 0", s.select(1, 0, 0, 0, 0, size[1]), 0);
            Check.due("d 0", s.select(1, 0, 0, 0, size[0], 0), 0);
            Check.due("the last pixel", s.select(1, 0, size[0] - 1, size[1] - 1, 100, 100), 1);
            Check.due("right of it", s.select(1, 0, size[0], 0, 100, 100), 0);
            Check.due("below it", s.select(1, 0, 0, size[1], 100, 100), 0);
            Check.due("the first pixel", s.select(1, 0, -99, -99, 100, 100), 1);
            Check.due("left of it", s.select(1, 0, -100, 0, 100, 100), 0);
            Check.due("above it", s.select(1, 0, 0, -100, 100, 100), 0);
        }
        int[][] boxes = {{0, 0, 1, 1}, {4, 3, 1, 1}, {-1, -1, 2, 2}, {1, 1, 3, 2}, {4, 3, 9, 9}, {2, 0, 1, 4}, {0, 2, 5, 1},
            {-100, -100, 100, 100}, {100, 100, 100, 100}, {-100, 0, 100, 9}};
        for (int[] b : boxes) {
            dueBox(5, 4, b[0], b[1], b[2], b[3]);
        }
        dueBox(24, 24, 23, 0, 1, 24);
        dueBox(24, 24, 7, 9, 8, 7);
    }

    private static int inEllipse(int x, int y, int[] e) {
        int many = 0;
        for (int k = 0; k < 16; k++) {
            long d = 4 * e[2];
            long f = 4 * e[3];
            long u = 8 * x + 2 * (k % 4) + 1 - 8 * e[0] - d;
            long v = 8 * y + 2 * (k / 4) + 1 - 8 * e[1] - f;
            many += e[2] > 0 && e[3] > 0 && u * u * f * f + v * v * d * d <= d * d * f * f ? 1 : 0;
        }
        return (255 * many + 8) / 16;
    }

    private static void ellipses() {
        int[][] all = {{0, 0, 0, 5}, {0, 0, 5, 0}, {0, 0, 0, 0}, {0, 0, 1, 1}, {3, 4, 1, 2}, {0, 0, 7, 5}, {1, 2, 5, 3},
            {-3, -2, 7, 9}, {-50, -50, 100, 100}, {-97, -98, 100, 100}, {5, 5, 100, 100}, {-90, 2, 100, 3}, {2, -95, 3, 100},
            {-1, -30, 100, 40}, {100, 100, 100, 100}, {-100, -100, 100, 100}, {0, 0, 10, 10}, {2, 1, 6, 8}, {4, 4, 2, 2}, {3, 2, 2, 4}};
        boolean[] seen = new boolean[256];
        for (int[] e : all) {
            PictureStudio s = paper(10, 9);
            int[] due = new int[90];
            for (int i = 0; i < 90; i++) {
                due[i] = inEllipse(i % 10, i / 10, e);
                seen[due[i]] = true;
            }
            String what = "the ellipse at " + e[0] + ", " + e[1] + " of " + e[2] + " by " + e[3];
            Check.due(what + ": how many", s.select(2, 0, e[0], e[1], e[2], e[3]), above(due));
            dueSelection(what, s, due);
        }
        // nine points: (255 9 + 8) / 16 is 143, just below 144
        Check.due("a value of nine points was among them", seen[143] ? 1 : 0, 1);
        PictureStudio one = Check.studio(1, 1);
        one.select(2, 0, 0, 0, 1, 1);
        Check.due("twelve points of a pixel", one.selected(0, 0), 191);
    }

    private static void wandSteps() {
        PictureStudio s = Check.studio(5, 3);
        int a = 0xFF000000;
        int b = 0xFFFFFFFF;
        Check.picture(s, a, b, a, b, a, b, b, b, b, a, a, b, a, a, a);
        int[][] dues = {{0, 0, 1}, {4, 0, 5}, {0, 2, 1}, {2, 2, 5}, {2, 0, 1}, {1, 0, 7}};
        for (int[] due : dues) {
            Check.due("from " + due[0] + ", " + due[1], s.select(3, 0, due[0], due[1], 0, 0), due[2]);
        }
        s.select(3, 0, 4, 0, 0, 0);
        Check.dueSelected("not round the ends of rows, not aslant", s, 0, 0, 0, 0, 255, 0, 0, 0, 0, 255, 0, 0, 255, 255, 255);
        PictureStudio g = Check.studio(24, 24);
        Check.due("from the first all 576", g.select(3, 0, 0, 0, 0, 0), 576);
        g.reselect(0, 0);
        Check.due("from the last all 576", g.select(3, 0, 23, 23, 0, 0), 576);
        g.reselect(0, 0);
        Check.due("from the right above", g.select(3, 0, 23, 0, 0, 0), 576);
        PictureStudio u = Check.studio(3, 3);
        int c = 0;
        Check.picture(u, b, c, b, b, c, b, b, b, b);
        Check.due("down, right and up", u.select(3, 0, 0, 0, 0, 0), 7);
        Check.due("what isn't there, too", u.select(3, 0, 1, 0, 0, 0), 2);
        Check.due("one pixel", Check.studio(1, 1).select(3, 0, 0, 0, 0, 0), 1);
        PictureStudio v = Check.studio(2, 1);
        v.layer(2, -1, 0);
        v.colours(0, -1, 0);
        v.select(1, 0, 1, 0, 1, 1);
        v.mask(0, 1);
        Check.due("over what is seen", v.select(3, 0, 0, 0, 254, 0), 1);
        Check.due("not over what is KEPT", v.count(5), 0);
    }

    private static void wandDiffers() {
        for (int shape = 3; shape < 5; shape++) {
            for (int k = 0; k < 4; k++) {
                PictureStudio s = Check.studio(3, 1);
                int shift = k == 3 ? 24 : 16 - 8 * k;
                int base = 0x80808080;
                Check.picture(s, base + (10 << shift), base, base - (10 << shift));
                Check.due("sample " + k + ": by 9", s.select(shape, 0, 1, 0, 9, 0), 1);
                Check.dueSelected("255, else 0", s, 0, 255, 0);
                Check.due("sample " + k + ": by 10", s.select(shape, 0, 1, 0, 10, 0), 3);
                Check.dueSelected("255", s, 255, 255, 255);
                Check.due("from those at the first", s.select(shape, 0, 0, 0, 10, 0), 2);
                Check.due("by 19 from the first", s.select(shape, 0, 0, 0, 19, 0), 2);
                Check.due("by 20 from the first", s.select(shape, 0, 0, 0, 20, 0), 3);
            }
            PictureStudio e = Check.studio(2, 1);
            Check.picture(e, 0, -1);
            Check.due("by 254", e.select(shape, 0, 0, 0, 254, 0), 1);
            Check.due("by 255", e.select(shape, 0, 0, 0, 255, 0), 2);
        }
        PictureStudio w = Check.studio(4, 2);
        Check.picture(w, 5, -1, 5, -1, -1, 5, -1, -2);
        Check.due("without steps", w.select(4, 0, 1, 0, 0, 0), 4);
        Check.dueSelected("without steps", w, 0, 255, 0, 255, 255, 0, 255, 0);
        PictureStudio g = Check.studio(24, 24);
        Check.due("all 576 without steps", g.select(4, 0, 23, 23, 0, 0), 576);
        lastPlace();
    }

    private static void lastPlace() {
        PictureStudio s = Check.canvas(24, 24);
        Check.dot(s, 0, 23, 23, -1);
        for (int shape = 3; shape < 5; shape++) {
            Check.due("the last place alone", s.select(shape, 0, 23, 23, 0, 0), 1);
            Check.due("the last place", s.selected(23, 23), 255);
            Check.due("all but the last place", s.select(shape, 0, 22, 23, 0, 0), 575);
            Check.due("not the last place", s.selected(23, 23), 0);
        }
    }

    private static void alphas() {
        int[] values = {0, 1, 128, 255, 7, 0};
        int[] colours = new int[6];
        for (int i = 0; i < 6; i++) {
            colours[i] = values[i] << 24 | 0xFFFFFF;
        }
        int[][] shifts = {{0, 0}, {1, 0}, {-1, 0}, {0, 1}, {0, -1}, {1, -1}, {3, 0}, {0, 2}, {64, 64}, {-64, -64}};
        for (int[] shift : shifts) {
            PictureStudio s = Check.studio(3, 2);
            int l = Check.picture(s, colours);
            s.set(l, 4, shift[0]);
            s.set(l, 5, shift[1]);
            s.set(l, 0, 0);
            s.set(l, 2, 0);
            s.mask(l, 3);
            s.mask(l, 2);
            int[] due = new int[6];
            for (int i = 0; i < 6; i++) {
                int x = i % 3 - shift[0];
                int y = i / 3 - shift[1];
                due[i] = x >= 0 && x < 3 && y >= 0 && y < 2 ? values[y * 3 + x] : 0;
            }
            Check.due("how many", s.select(5, 0, l, 0, 0, 0), above(due));
            Check.dueSelected("shifted by " + shift[0] + ", " + shift[1], s, due);
        }
        PictureStudio g = paper(24, 24);
        g.fill(0, 0);
        Check.due("all 576", g.select(5, 0, 0, 0, 0, 0), 576);
    }

    private static void paths() {
        PictureStudio s = paper(24, 24);
        Check.box(s, 0, 0, 0, 384, 384);
        Check.due("all 576", s.select(6, 0, 0, 0, 0, 0), 576);
        Check.box(s, 0, 16, 16, 368, 368);
        Check.due("rule 1", s.select(6, 0, 0, 1, 0, 0), 92);
        Check.due("rule 0", s.select(6, 0, 0, 0, 0, 0), 576);
        Check.due("an empty PATH", s.select(6, 0, 7, 0, 0, 0), 0);
        PictureStudio t = Check.studio(2, 1);
        Check.box(t, 7, 2, 2, 6, 3);
        t.select(6, 0, 7, 0, 0, 0);
        Check.dueSelected("where it lies: a point at its beginning", t, 16, 0);
        t.step(7, 3, 0, 0);
        Check.box(t, 7, 3, 2, 7, 3);
        t.select(6, 0, 7, 1, 0, 0);
        Check.dueSelected("one further right", t, 16, 0);
        t.step(7, 3, 0, 0);
        Check.box(t, 7, 3, 3, 6, 9);
        t.select(6, 0, 7, 1, 0, 0);
        Check.dueSelected("a point at its end isn't in", t, 0, 0);
    }

    private static void turned() {
        PictureStudio s = paper(4, 2);
        give(s, 0, 1, 2, 127, 128, 253, 254, 255);
        Check.due("how many", s.reselect(0, 0), 7);
        dueSelection("turned", s, 255, 254, 253, 128, 127, 2, 1, 0);
        Check.due("turned back", s.reselect(0, 0), 7);
        dueSelection("turned back", s, 0, 1, 2, 127, 128, 253, 254, 255);
        PictureStudio g = paper(24, 24);
        Check.due("all 0", g.reselect(0, 0), 0);
        dueSelection("all 0", g, new int[576]);
        Check.due("all 255", g.reselect(0, 0), 576);
    }

    private static int[] random(int seed, int many) {
        Random r = new Random(seed);
        int[] all = new int[many];
        for (int i = 0; i < many; i++) {
            all[i] = r.nextInt(3) == 0 ? 0 : r.nextInt(3) == 0 ? 255 : r.nextInt(256);
        }
        return all;
    }

    /** The square of 2 n + 1 around a place: 1 its greatest (places there are), 2 its least (0 outside), 3 the mean (nearest). */
    private static int[] around(int how, int n, int[] values, int w) {
        int h = values.length / w;
        int side = 2 * n + 1;
        int[] all = new int[values.length];
        for (int i = 0; i < all.length; i++) {
            int most = 0;
            int least = 255;
            int sum = 0;
            for (int k = 0; k < side * side; k++) {
                int x = i % w - n + k % side;
                int y = i / w - n + k / side;
                int near = values[Math.max(0, Math.min(h - 1, y)) * w + Math.max(0, Math.min(w - 1, x))];
                boolean there = x >= 0 && y >= 0 && x < w && y < h;
                most = Math.max(most, there ? near : 0);
                least = Math.min(least, there ? near : 0);
                sum += near;
            }
            all[i] = how == 1 ? most : how == 2 ? least : (sum + side * side / 2) / (side * side);
        }
        return all;
    }

    private static void dueAround(int how) {
        int[][] sizes = {{1, 1}, {1, 7}, {6, 1}, {7, 5}, {12, 11}};
        for (int[] size : sizes) {
            for (int n : new int[] {1, 2, 3, 8}) {
                PictureStudio s = paper(size[0], size[1]);
                int[] values = random(how * 10 + n, size[0] * size[1]);
                give(s, values);
                int[] due = around(how, n, values, size[0]);
                due = how == 3 ? around(how, n, due, size[0]) : due;
                String what = "how " + how + " by " + n + " of " + size[0] + " by " + size[1];
                Check.due(what + ": how many", s.reselect(how, n), above(due));
                dueSelection(what, s, due);
            }
        }
    }

    private static void grown() {
        dueAround(1);
        PictureStudio s = Check.studio(5, 1);
        s.select(1, 0, 0, 0, 1, 1);
        Check.due("by 1", s.reselect(1, 1), 2);
        Check.due("by 8 over the end", s.reselect(1, 8), 5);
        s.select(1, 0, 0, 0, 0, 0);
        Check.due("nothing stays nothing", s.reselect(1, 8), 0);
        Check.due("all of 24 by 24", Check.studio(24, 24).reselect(1, 8), 576);
    }

    private static void shrunk() {
        dueAround(2);
        Check.due("24 by 24: the outermost go", Check.studio(24, 24).reselect(2, 1), 484);
        Check.due("24 by 24 by 8", Check.studio(24, 24).reselect(2, 8), 64);
        Check.due("3 by 3: one is left", Check.studio(3, 3).reselect(2, 1), 1);
        Check.due("2 by 2: none is left", Check.studio(2, 2).reselect(2, 1), 0);
        Check.due("17 by 17 by 8: one is left", Check.studio(17, 17).reselect(2, 8), 1);
        Check.due("16 by 17 by 8: none is left", Check.studio(16, 17).reselect(2, 8), 0);
    }

    private static void softened() {
        dueAround(3);
        PictureStudio s = paper(3, 3);
        // 255 / 9 is 28.3: 28; 4 / 9 is 0, but (5 + 4) / 9 is 1
        give(s, 0, 0, 0, 0, 4, 0, 0, 0, 0);
        Check.due("4 of nine is 0", s.reselect(3, 1), 0);
        give(s, 0, 0, 0, 0, 5, 0, 0, 0, 0);
        Check.due("5 of nine is 1, and so is nine times 1", s.reselect(3, 1), 9);
        dueSelection("all 1", s, 1, 1, 1, 1, 1, 1, 1, 1, 1);
        PictureStudio g = paper(24, 24);
        Check.due("all 255 stays", g.reselect(3, 8), 576);
        Check.due("all 255 stays", g.selected(23, 0), 255);
    }

    private static void selectEnds() {
        PictureStudio s = Check.canvas(4, 3);
        s.layer(2, -1, 1);
        Check.ends("way", 0, 3, v -> s.select(0, v, 0, 0, 0, 0));
        Check.ends("shape", 0, 6, v -> s.select(v, 0, 0, 0, 0, 0));
        for (int i = 0; i < 3; i++) {
            int shape = i;
            Check.ends("a of shape " + i, -100, 100, v -> s.select(shape, 0, v, 0, 0, 0));
            Check.ends("b of shape " + i, -100, 100, v -> s.select(shape, 0, 0, v, 0, 0));
            Check.ends("c of shape " + i, i == 0 ? -100 : 0, 100, v -> s.select(shape, 0, 0, 0, v, 0));
            Check.ends("d of shape " + i, i == 0 ? -100 : 0, 100, v -> s.select(shape, 0, 0, 0, 0, v));
        }
        for (int i = 3; i < 5; i++) {
            int shape = i;
            Check.ends("a of shape " + i, 0, 3, v -> s.select(shape, 0, v, 0, 0, 0));
            Check.ends("b of shape " + i, 0, 2, v -> s.select(shape, 0, 0, v, 0, 0));
            Check.ends("c of shape " + i, 0, 255, v -> s.select(shape, 0, 0, 0, v, 0));
            Check.ends("d of shape " + i, -100, 100, v -> s.select(shape, 0, 0, 0, 0, v));
        }
        PictureStudio t = Check.canvas(4, 3);
        t.layer(2, -1, 1);
        for (int kind = 1; kind < 6; kind++) {
            int l = t.layer(kind, -1, 0);
            Check.missing("KIND " + kind, () -> t.select(5, 0, l, 0, 0, 0));
        }
        int[] none = {-100, -1, 7, 29, 30, 100};
        for (int l : none) {
            Check.missing("LAYER " + l, () -> t.select(5, 0, l, 0, 0, 0));
        }
        Check.bad("LAYER -101 is out of range", () -> t.select(5, 0, -101, 0, 0, 0));
        Check.bad("LAYER 101 is out of range", () -> t.select(5, 0, 101, 0, 0, 0));
        Check.taken("LAYER 0", () -> t.select(5, 0, 0, 0, 0, 0));
        Check.ends("PATH", 0, 7, v -> t.select(6, 0, v, 0, 0, 0));
        Check.ends("rule", 0, 1, v -> t.select(6, 0, 0, v, 0, 0));
        t.select(0, 0, 0, 0, 0, 0);
        Check.due("no EDIT", t.count(3), 7);
        Check.bad("a bad one", () -> t.select(1, 0, 0, 0, 0, 101));
        Check.missing("a missing one", () -> t.select(5, 0, 1, 0, 0, 0));
        Check.due("leave the SELECTION", t.reselect(0, 0), 0);
    }

    private static void reselectEnds() {
        PictureStudio s = Check.studio(3, 3);
        Check.ends("turned by", 0, 0, v -> s.reselect(0, v));
        for (int i = 1; i < 4; i++) {
            int how = i;
            Check.ends("how " + how + " by", 1, 8, v -> s.reselect(how, v));
        }
        Check.bad("how -1", () -> s.reselect(-1, 1));
        Check.bad("how -1", () -> s.reselect(-1, 0));
        Check.bad("how 4", () -> s.reselect(4, 1));
        PictureStudio t = Check.studio(3, 3);
        Check.bad("grown by 9", () -> t.reselect(1, 9));
        Check.bad("shrunk by 0", () -> t.reselect(2, 0));
        Check.bad("turned by 1", () -> t.reselect(0, 1));
        Check.due("as it was", t.selected(0, 0), 255);
    }

    private static void selected() {
        for (int[] size : new int[][] {{1, 1}, {5, 3}, {24, 24}}) {
            PictureStudio s = Check.studio(size[0], size[1]);
            int[][] beyond = {{-1, 0}, {0, -1}, {size[0], 0}, {0, size[1]}, {Integer.MIN_VALUE, 0}, {Integer.MAX_VALUE, 0},
                {0, Integer.MAX_VALUE}, {1 << 30, 4}};
            for (int[] place : beyond) {
                Check.missing("selected(" + place[0] + ", " + place[1] + ")", () -> s.selected(place[0], place[1]));
            }
            Check.due("the first", s.selected(0, 0), 255);
            Check.due("the last", s.selected(size[0] - 1, size[1] - 1), 255);
        }
    }
}
