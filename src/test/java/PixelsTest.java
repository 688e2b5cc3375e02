/** Changing PIXELS: promises 13 (turn), 14 (scale), 15 (flat), 16 (fill), 17 (merge) and 19 (filter). */
public final class PixelsTest {
    public static void main(String[] args) {
        turn();
        scale();
        scaleSmoothly();
        flat();
        flatGroup();
        fill();
        fillShifted();
        merge();
        mergeClipped();
        filterRefusals();
        filtersOfEachPixel();
        filtersOfPixelsAround();
        filterWithinSelection();
        Check.done("PixelsTest");
    }

    private static void wrongKinds(String what, PictureStudio s, java.util.function.IntConsumer call) {
        Check.bad(what + ": a FILL", () -> call.accept(1));
        Check.missing(what + ": a LAYER that isn't there", () -> call.accept(2));
        Check.missing(what + ": LAYER -1", () -> call.accept(-1));
        Check.due(what + ": no EDIT then", s.count(3), 2);
    }

    /** PIXELS 0 and a FILL 1 that isn't theirs to change. */
    private static PictureStudio twoKinds(int w, int h) {
        PictureStudio s = Check.canvas(w, h);
        s.layer(2, -1, 0);
        return s;
    }

    private static void turn() {
        PictureStudio s = twoKinds(3, 2);
        wrongKinds("turn", s, l -> s.turn(l, 0));
        Check.bad("how -1", () -> s.turn(0, -1));
        Check.bad("how 3", () -> s.turn(0, 3));
        Check.bad("bad comes ahead of missing", () -> s.turn(2, 3));
        Check.refused("2 when W isn't H", () -> s.turn(0, 2));
        Check.bad("another KIND comes ahead of REFUSED", () -> s.turn(1, 2));
        Check.paint(s, 0, 1, 2, 3, 4, 5, 6);
        s.turn(0, 0);
        Check.duePixels("left to right", s, 0, 3, 2, 1, 6, 5, 4);
        s.turn(0, 1);
        Check.duePixels("above to below", s, 0, 6, 5, 4, 3, 2, 1);
        PictureStudio q = Check.canvas(2, 2);
        Check.paint(q, 0, 1, 2, 3, 4);
        q.turn(0, 2);
        Check.duePixels("x, y is that of y, x", q, 0, 1, 3, 2, 4);
    }

    private static void scale() {
        PictureStudio s = twoKinds(4, 2);
        wrongKinds("scale", s, l -> s.scale(l, 1, 1, false));
        for (int i = 0; i < 2; i++) {
            boolean smooth = i == 1;
            Check.bad("n 0", () -> s.scale(0, 0, 1, smooth));
            Check.bad("n 17", () -> s.scale(0, 17, 1, smooth));
            Check.bad("d 0", () -> s.scale(0, 1, 0, smooth));
            Check.bad("d 17", () -> s.scale(0, 1, 17, smooth));
            Check.bad("bad comes ahead of missing", () -> s.scale(2, 1, 17, smooth));
        }
        Check.paint(s, 0, 1, 2, 3, 4, 5, 6, 7, 8);
        s.scale(0, 1, 1, false);
        Check.duePixels("by 1", s, 0, 1, 2, 3, 4, 5, 6, 7, 8);
        s.scale(0, 2, 1, false);
        Check.duePixels("by 2", s, 0, 1, 1, 2, 2, 1, 1, 2, 2);
        s.undo();
        s.scale(0, 1, 2, false);
        Check.duePixels("by a half: at 1, 3, then beyond", s, 0, 6, 8, 0, 0, 0, 0, 0, 0);
        s.undo();
        s.scale(0, 3, 2, false);
        Check.duePixels("by 3 / 2", s, 0, 1, 2, 2, 3, 5, 6, 6, 7);
        s.scale(0, 1, 16, false);
        Check.duePixels("by 1 / 16: beyond", s, 0, 0, 0, 0, 0);
    }

    private static void scaleSmoothly() {
        PictureStudio s = Check.canvas(2, 1);
        Check.paint(s, 0, 0xFF000000, 0xFFFFFFFF);
        s.scale(0, 1, 1, true);
        Check.duePixels("by 1: each for itself", s, 0, 0xFF000000, 0xFFFFFFFF);
        // X = (2 x + 1) 4 - 8 = -4, 4; Y = -4: a quarter of each side comes from beyond
        s.scale(0, 2, 1, true);
        Check.duePixels("by 2", s, 0, 0x8F000000, 0xBF404040);
        PictureStudio q = Check.canvas(2, 2);
        Check.paint(q, 0, 0xFFFF0000, 0x8000FF00, 0, 0xFF0000FF);
        // X = (2 x + 1) 16 - 8 = 8 and 40: four halves, then beyond
        q.scale(0, 1, 2, true);
        Check.duePixels("by a half", q, 0, 0xA0663366, 0, 0, 0);
        PictureStudio t = Check.canvas(1, 3);
        Check.paint(t, 0, 0xFF000000, 0xFF404040, 0xFF808080);
        // Y = (2 y + 1) 16 / 3 - 8 = -3, 8, 18; X = -3: 13 / 16 of each row is there
        t.scale(0, 3, 2, true);
        Check.duePixels("by 3 / 2", t, 0, 0xA8000000, 0xCF202020, 0xCF484848);
    }

    private static void flat() {
        PictureStudio s = Check.studio(2, 1);
        for (int kind = 0; kind < 6; kind++) {
            s.layer(kind, -1, kind);
        }
        Check.missing("a LAYER that isn't there", () -> s.flat(6));
        Check.refused("CURVED", () -> s.flat(4));
        Check.refused("LIVE", () -> s.flat(5));
        s.colours(2, 0xFF102030, 0);
        s.select(1, 0, 0, 0, 1, 1);
        s.mask(2, 1);
        s.set(2, 0, 128);
        s.set(2, 1, 5);
        s.set(2, 2, 0);
        s.set(2, 3, 1);
        s.set(2, 4, 9);
        s.set(2, 5, -9);
        s.flat(2);
        Check.duePixels("opacity and MASK counted", s, 2, 0x80102030, 0);
        int[] due = {0, -1, 2, 255, 0, 0, 1, 0, 0, 0};
        for (int what = 0; what < due.length; what++) {
            Check.due("about(2, " + what + ") behind flat", s.about(2, what), due[what]);
        }
        Check.due("no MASK", s.masked(2, 0, 0), -1);
        s.undo();
        Check.due("a FILL again", s.about(2, 0), 2);
        Check.due("with its MASK", s.masked(2, 0, 0), 255);
        s.select(0, 0, 0, 0, 0, 0);
        s.front(0xFF000001);
        s.fill(0, 0);
        s.set(0, 4, 1);
        s.flat(0);
        Check.duePixels("PIXELS with their shift", s, 0, 0, 0xFF000001);
    }

    private static void flatGroup() {
        PictureStudio s = Check.studio(1, 1);
        s.layer(2, -1, 0);
        s.layer(1, -1, 1);
        s.layer(2, 1, 0);
        s.layer(2, 1, 1);
        s.layer(1, 1, 2);
        s.colours(0, 0xFFFFFFFF, 0);
        s.colours(2, 0xFFC86432, 0);
        s.colours(3, 0xFF64C81E, 0);
        s.set(3, 1, 1);
        s.set(1, 0, 128);
        int before = s.hash();
        s.flat(1);
        Check.duePixels("what is seen of it alone", s, 1, 0x804E4E06);
        Check.due("all IN it go", s.count(2), 2);
        Check.missing("such as this", () -> s.about(4, 0));
        Check.due("what is seen stays", s.hash(), before);
        PictureStudio q = Check.studio(1, 1);
        q.layer(2, -1, 0);
        q.layer(1, -1, 1);
        q.move(0, 1, 0);
        q.flat(1);
        Check.due("LAYER 0 goes as others do", q.count(2), 1);
    }

    private static void fill() {
        PictureStudio s = twoKinds(3, 1);
        wrongKinds("fill", s, l -> s.fill(l, 0));
        Check.bad("how -1", () -> s.fill(0, -1));
        Check.bad("how 3", () -> s.fill(0, 3));
        Check.bad("bad comes ahead of missing", () -> s.fill(2, 3));
        s.front(0x80C86432);
        s.select(1, 0, 1, 0, 2, 1);
        Check.due("over nothing", s.fill(0, 0), 2);
        Check.duePixels("over nothing", s, 0, 0, 0x80C86432, 0x80C86432);
        s.front(0x8000FF00);
        s.select(1, 0, 0, 0, 2, 1);
        Check.due("over", s.fill(0, 0), 2);
        // e 128, den 255 128 + 127 128 = 48896, A 192; R 127 128 200 / den, G (255 128 255 + 127 128 100) / den
        Check.duePixels("over", s, 0, 0x8000FF00, 0xC042CB11, 0x80C86432);
        s.front(0xFF000000);
        s.select(2, 0, 0, 0, 2, 1);
        Check.due("erase", s.fill(0, 1), 2);
        Check.duePixels("erase: A by 255 - 223", s, 0, 0x1000FF00, 0x1842CB11, 0x80C86432);
        s.front(0x00FFFFFF);
        s.select(1, 0, 2, 0, 1, 1);
        Check.due("replace", s.fill(0, 2), 1);
        Check.duePixels("replace", s, 0, 0x1000FF00, 0x1842CB11, 0x00FFFFFF);
        s.select(1, 0, 0, 0, 0, 0);
        Check.due("over with t 0: what isn't there becomes 0", s.fill(0, 0), 1);
        Check.duePixels("over with t 0", s, 0, 0x1000FF00, 0x1842CB11, 0);
        Check.due("erase with t 0", s.fill(0, 1), 0);
        Check.due("replace with t 0", s.fill(0, 2), 0);
        s.select(2, 0, 0, 0, 2, 1);
        s.fill(0, 2);
        Check.duePixels("replace by MIX(b, c, 223)", s, 0, 0x02DFFFDF, 0x03E7F8E1, 0);
    }

    private static void fillShifted() {
        PictureStudio s = Check.canvas(3, 2);
        s.set(0, 4, 1);
        s.set(0, 5, -1);
        s.select(1, 0, 1, 0, 1, 1);
        Check.due("the SELECTION's place is that behind the shift", s.fill(0, 2), 1);
        Check.dueColour("its own place", s.pixel(0, 0, 1), 0xFF000000);
        Check.dueColour("seen where it was selected", s.see(1, 0), 0xFF000000);
        s.select(0, 0, 0, 0, 0, 0);
        Check.due("beyond the DOCUMENT it is 0", s.fill(0, 2), 1);
        Check.duePixels("so only these", s, 0, 0, 0, 0, 0xFF000000, 0xFF000000, 0);
        PictureStudio q = Check.canvas(2, 2);
        q.set(0, 5, 1);
        Check.due("below the DOCUMENT it is 0, too", q.fill(0, 2), 2);
        Check.duePixels("so only these", q, 0, 0xFF000000, 0xFF000000, 0, 0);
    }

    private static void merge() {
        PictureStudio s = Check.studio(1, 1);
        for (int kind = 0; kind < 6; kind++) {
            s.layer(kind, -1, kind);
        }
        Check.missing("a LAYER that isn't there", () -> s.merge(6));
        Check.refused("none below", () -> s.merge(0));
        Check.refused("CURVED", () -> s.merge(4));
        Check.refused("LIVE", () -> s.merge(5));
        s.layer(2, -1, 6);
        Check.refused("above LIVE", () -> s.merge(6));
        s.move(4, -1, 0);
        Check.refused("above CURVED", () -> s.merge(0));
        PictureStudio m = Check.studio(1, 1);
        m.layer(2, -1, 0);
        m.layer(1, -1, 1);
        m.layer(2, 1, 0);
        m.layer(1, -1, 2);
        m.layer(2, 3, 0);
        m.colours(0, 0xFFFFFFFF, 0);
        m.colours(2, 0xFFC86432, 0);
        m.colours(4, 0xFF64C81E, 0);
        m.set(3, 1, 1);
        m.set(1, 1, 9);
        m.set(1, 2, 0);
        m.set(1, 4, 5);
        m.set(3, 2, 0);
        m.mask(1, 3);
        m.merge(3);
        Check.duePixels("both as shown, with the mode of the upper one", m, 1, 0xFF4E4E06);
        int[] due = {0, -1, 1, 255, 0, 0, 0, 0, 0, 0};
        for (int what = 0; what < due.length; what++) {
            Check.due("about(1, " + what + ") behind merge", m.about(1, what), due[what]);
        }
        Check.due("no MASK", m.masked(1, 0, 0), -1);
        Check.due("the upper one and all IN both go", m.count(2), 2);
        m.layer(2, -1, 2);
        m.layer(1, -1, 0);
        m.move(5, 6, 0);
        Check.refused("none below in its own PARENT", () -> m.merge(5));
    }

    private static void mergeClipped() {
        PictureStudio s = Check.studio(1, 1);
        s.layer(2, -1, 0);
        s.layer(2, -1, 1);
        s.colours(0, 0x80FFFFFF, 0);
        s.colours(1, 0xFFFF0000, 0);
        s.set(1, 3, 1);
        int before = s.hash();
        s.merge(1);
        Check.due("clipped by the lower one", s.hash(), before);
        Check.duePixels("clipped by the lower one", s, 0, 0xC0FF5555);
        s.undo();
        s.set(0, 3, 1);
        s.merge(1);
        Check.duePixels("a clipped lower one has none below", s, 0, 0);
        Check.due("it stays clipped", s.about(0, 6), 1);
    }

    private static void filterRefusals() {
        PictureStudio s = twoKinds(2, 1);
        wrongKinds("filter", s, l -> s.filter(l, 8, 0));
        Check.bad("FILTER -1", () -> s.filter(0, -1, 0));
        Check.bad("FILTER 14", () -> s.filter(0, 14, 0));
        Check.bad("bad comes ahead of missing", () -> s.filter(2, 14, 0));
        int[] least = {1, 0, 0, 0, 0, 2, 0, 2, 0, 0, 0, 0, 0, 0};
        int[] most = {4, 255, 0, 0, 0, 8, 255, 64, 0, 255, 0, 0, 255, 255};
        for (int f = 0; f < 14; f++) {
            int kind = f;
            Check.bad("amount below, FILTER " + f, () -> s.filter(0, kind, least[kind] - 1));
            Check.bad("amount above, FILTER " + f, () -> s.filter(0, kind, most[kind] + 1));
            s.filter(0, f, least[f]);
            s.filter(0, f, most[f]);
        }
    }

    private static void dueAlone(int kind, int n, int from, int to) {
        PictureStudio s = Check.canvas(1, 1);
        Check.dot(s, 0, 0, 0, from);
        Check.due("FILTER " + kind + " with " + n + ": how many changed", s.filter(0, kind, n), from == to ? 0 : 1);
        Check.duePixels("FILTER " + kind + " with " + n, s, 0, to);
    }

    private static void filtersOfEachPixel() {
        dueAlone(6, 124, 0x80C86432, 0x80FFFFFF);
        dueAlone(6, 125, 0x80C86432, 0x80000000);
        dueAlone(7, 2, 0x407F80FF, 0x4000FFFF);
        dueAlone(7, 5, 0xFF20C865, 0xFF40BF80);
        dueAlone(7, 64, 0xFF010203, 0xFF000004);
        dueAlone(8, 0, 0x40C86432, 0x40379BCD);
        dueAlone(11, 0, 0x40C86432, 0x407C7C7C);
        // h 85, up 50 + 150 85 / 256: one less than before
        dueAlone(12, 0, 0x40C86432, 0x40C86332);
        dueAlone(12, 255, 0xFF808080, 0xFF808080);
        // d 150, h 85 + 6 100 = 685: k 2, f 173, up 50 + 150 173 / 256
        dueAlone(12, 100, 0xFFC86432, 0xFF32C897);
        dueAlone(12, 64, 0xFF32C864, 0xFF324CC8);
        dueAlone(12, 128, 0xFFFF0001, 0xFF00FFFE);
        dueAlone(12, 10, 0xFFFF0000, 0xFFFF3B00);
        dueAlone(12, 43, 0xFFFF0000, 0xFFFEFF00);
        dueAlone(12, 85, 0xFFFF0000, 0xFF02FF00);
        dueAlone(12, 171, 0xFFFF0000, 0xFF0100FF);
        dueAlone(12, 213, 0xFFFF0000, 0xFFFD00FF);
        dueAlone(12, 255, 0xFFFF0000, 0xFFFF0006);
        dueAlone(12, 20, 0xFF0000FF, 0xFF7700FF);
        dueAlone(12, 1, 0xFF00FFFF, 0xFF00FAFF);
        // 1024 + 256 (100 - 50) / 200 = 1088, + 540 - 1536 = 92: up 50 + 200 92 / 256
        dueAlone(12, 90, 0xFF6432FA, 0xFFFA7932);
        dueAlone(12, 0, 0xFFFE00FF, 0xFFFD00FF);
        dueAlone(13, 64, 0x80C86432, 0x80C86432);
        dueAlone(13, 0, 0x80C86432, 0x807C7C7C);
        dueAlone(13, 255, 0x80C86432, 0x80FF1C00);
        dueAlone(9, 7, 0x80C86432, 0x80C86432);
        dueAlone(9, 80, 0x80C80032, grained(0x80C80032, 80));
    }

    /** Grain at 0, 0, as the document tells it. */
    private static int grained(int c, int n) {
        int h = n * 1274126177;
        h = (h ^ (h >>> 13)) * 1103515245;
        int d = (h >>> 24) % (2 * (n >> 3) + 1) - (n >> 3);
        int all = c & 0xFF000000;
        for (int shift = 0; shift < 24; shift += 8) {
            all |= Math.max(0, Math.min(255, (c >> shift & 255) + d)) << shift;
        }
        return all;
    }

    private static PictureStudio greys() {
        PictureStudio s = Check.canvas(3, 3);
        Check.paint(s, 0, Check.grey(10), Check.grey(20), Check.grey(30), Check.grey(40), Check.grey(50), Check.grey(60),
            Check.grey(70), Check.grey(80), 0x00FFFFFF);
        return s;
    }

    private static void dueGreys(String what, PictureStudio s, int... values) {
        for (int i = 0; i < 9; i++) {
            Check.dueColour(what + " at " + i, s.pixel(0, i % 3, i / 3), Check.grey(values[i]) & (i == 8 ? 0xFFFFFF : -1));
        }
    }

    private static void filtersOfPixelsAround() {
        PictureStudio s = greys();
        s.filter(0, 0, 1);
        Check.dueColour("soft in the middle: eight that are there", s.pixel(0, 1, 1), 0xE32D2D2D);
        Check.dueColour("soft in a corner: places outside are the nearest", s.pixel(0, 0, 0), 0xFF171717);
        Check.dueColour("soft in the corner where nothing is", s.pixel(0, 2, 2), 0x8E424242);
        s.undo();
        s.filter(0, 0, 4);
        Check.dueColour("soft by 4", s.pixel(0, 1, 1), 0xCD282828);
        s.undo();
        s.filter(0, 1, 64);
        dueGreys("sharp: c + c - q", s, 0, 10, 23, 37, 55, 73, 77, 96, 255);
        s.undo();
        s.filter(0, 1, 200);
        Check.dueColour("sharp by 200: 10 + ((10 - 23) 200 >> 6)", s.pixel(0, 0, 0), 0xFF000000);
        Check.dueColour("sharp by 200: 50 + (5 200 >> 6)", s.pixel(0, 1, 1), 0xFF414141);
        s.undo();
        s.filter(0, 2, 0);
        Check.dueColour("middle", s.pixel(0, 1, 1), 0xFF323232);
        Check.dueColour("middle of a corner", s.pixel(0, 0, 0), 0xFF141414);
        Check.dueColour("middle, A for itself", s.pixel(0, 2, 2), 0xFF505050);
        s.undo();
        s.filter(0, 3, 0);
        Check.dueColour("edges", s.pixel(0, 1, 1), Check.grey(255));
        Check.dueColour("edges of a corner: 40 + 120", s.pixel(0, 0, 0), Check.grey(160));
        Check.dueColour("edges on the left: 40 + 240", s.pixel(0, 0, 1), Check.grey(255));
        dueEdges(0, 200, 200, 200, 200, 200, 200, 200, 200, 200);
        // 20 - 9 and 26 - 13; 37 - 18 and 24 - 9
        dueEdges(24, 0, 2, 9, 2, 0, 1, 5, 6, 9);
        dueEdges(34, 1, 2, 4, 7, 0, 12, 3, 6, 9);
        s.undo();
        s.filter(0, 4, 0);
        dueGreys("raised", s, 168, 178, 168, 198, 255, 255, 168, 255, 255);
        s.undo();
        s.filter(0, 5, 2);
        int[] blocks = {10, 10, 30, 10, 10, 30, 70, 70};
        for (int i = 0; i < blocks.length; i++) {
            Check.dueColour("blocks at " + i, s.pixel(0, i % 3, i / 3), Check.grey(blocks[i]));
        }
        s.undo();
        s.kernel(4, 0);
        s.kernel(0, -1);
        s.kernel(5, 3);
        s.kernel(9, 7);
        s.kernel(10, -1);
        s.filter(0, 10, 0);
        Check.dueColour("own: (-10 + 180) / 7 - 1", s.pixel(0, 1, 1), Check.grey(23));
        Check.dueColour("own: (-50 + 765) / 7 - 1, A as it is", s.pixel(0, 2, 2), 0x00656565);
        s.undo();
        s.kernel(0, 0);
        s.kernel(5, 0);
        s.kernel(9, 1);
        s.kernel(10, 0);
        for (int i = 0; i < 9; i++) {
            s.kernel(i, 1);
            s.filter(0, 10, 0);
            Check.dueColour("own: number " + i + " alone", s.pixel(0, 1, 1), Check.grey(i < 8 ? 10 * i + 10 : 255));
            s.undo();
            s.kernel(i, 0);
        }
    }

    /** The middle of nine grey pixels, each Y told row by row. */
    private static void dueEdges(int due, int... told) {
        PictureStudio s = Check.canvas(3, 3);
        for (int i = 0; i < 9; i++) {
            Check.dot(s, 0, i % 3, i / 3, Check.grey(told[i]));
        }
        s.filter(0, 3, 0);
        Check.dueColour("edges of nine", s.pixel(0, 1, 1), Check.grey(due));
    }

    private static void filterWithinSelection() {
        PictureStudio s = Check.canvas(3, 1);
        Check.paint(s, 0, 0xFF000000, 0x80FFFFFF, 0xFF102030);
        s.select(2, 0, 0, 0, 2, 1);
        s.set(0, 4, 1);
        Check.due("how many changed", s.filter(0, 8, 0), 1);
        Check.duePixels("MIX by the SELECTION at the shifted place", s, 0, 0xFFDFDFDF, 0x80FFFFFF, 0xFF102030);
        s.select(0, 0, 0, 0, 0, 0);
        Check.due("all that isn't shifted out", s.filter(0, 8, 0), 2);
        Check.duePixels("all that isn't shifted out", s, 0, 0xFF202020, 0x80000000, 0xFF102030);
        s.set(0, 4, 0);
        s.select(1, 0, 0, 0, 1, 1);
        s.filter(0, 0, 1);
        Check.duePixels("A is mixed, too", s, 0, 0xD51A1A1A, 0x80000000, 0xFF102030);
        PictureStudio q = Check.canvas(1, 3);
        q.set(0, 5, 1);
        q.select(1, 0, 0, 1, 1, 1);
        Check.due("shifted down", q.filter(0, 8, 0), 1);
        Check.duePixels("shifted down", q, 0, 0x00FFFFFF, 0, 0);
    }
}
