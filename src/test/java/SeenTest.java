/** What is seen: promises 10 (mask), 11 (colours), 12 (ramp), 39 (see), 40 (zoomed), 41 (hash), 42, 43 and TILES. */
public final class SeenTest {
    public static void main(String[] args) {
        oneLayer();
        modes();
        modesAtTheirEnds();
        partlyThere();
        groups();
        clipping();
        mask();
        colours();
        ramp();
        curved();
        live();
        liveLooksAtItsParent();
        shifted();
        see();
        tilesForgotten();
        tilesBeyondTheEnds();
        tilesByReach();
        zoomed();
        hash();
        pixelAndMasked();
        Check.done("SeenTest");
    }

    /** A studio of one pixel with two FILLS, the upper one with a mode. */
    private static PictureStudio pair(int lower, int upper, int mode) {
        PictureStudio s = Check.studio(1, 1);
        s.layer(2, -1, 0);
        s.layer(2, -1, 1);
        s.colours(0, lower, 0);
        s.colours(1, upper, 0);
        s.set(1, 1, mode);
        return s;
    }

    private static void oneLayer() {
        PictureStudio s = Check.studio(1, 1);
        s.layer(2, -1, 0);
        s.colours(0, 0x80102030, 0);
        Check.dueColour("as it is", s.see(0, 0), 0x80102030);
        s.set(0, 0, 128);
        Check.dueColour("opacity: MUL(128, 128)", s.see(0, 0), 0x40102030);
        s.set(0, 0, 0);
        Check.dueColour("what isn't there is 0", s.see(0, 0), 0);
        s.set(0, 0, 1);
        s.colours(0, 0x7F102030, 0);
        Check.dueColour("MUL(127, 1) is 0", s.see(0, 0), 0);
        s.colours(0, 0x80102030, 0);
        Check.dueColour("MUL(128, 1) is 1", s.see(0, 0), 0x01102030);
        s.set(0, 0, 255);
        s.set(0, 2, 0);
        Check.dueColour("not shown", s.see(0, 0), 0);
    }

    private static void modes() {
        int[] due = {0xFF64C81E, 0xFF4E4E06, 0xFFDEDE4A, 0xFFBC9D0C, 0xFF64641E, 0xFFC8C832, 0xFFFFFF38, 0xFF733A00,
            0xFF9DBC0C, 0xFF646414, 0xFF909044, 0xFFFFFF50, 0xFF640014, 0xFFBF8614, 0xFFE37F4D, 0xFF49AD03};
        for (int mode = 0; mode < 16; mode++) {
            Check.dueColour("mode " + mode, pair(0xFFC86432, 0xFF64C81E, mode).see(0, 0), due[mode]);
        }
    }

    private static void modesAtTheirEnds() {
        Check.dueColour("6: b 0, s 0, s 255", pair(0xFF00FF0A, 0xFFFF00FF, 6).see(0, 0), 0xFF00FFFF);
        Check.dueColour("6: 255 100 / 155", pair(0xFF646464, 0xFF646464, 6).see(0, 0), 0xFFA4A4A4);
        Check.dueColour("7: s 255, b 255, s 255", pair(0xFF00FF0A, 0xFFFF00FF, 7).see(0, 0), 0xFF00FF0A);
        Check.dueColour("7: s 0", pair(0xFF0AFF00, 0xFF000000, 7).see(0, 0), 0xFF00FF00);
        Check.dueColour("3: b 127, 128", pair(0xFF7F8000, 0xFFC8C8C8, 3).see(0, 0), 0xFFC7C800);
        Check.dueColour("8: s 127, 128", pair(0xFFC8C8C8, 0xFF7F80FF, 8).see(0, 0), 0xFFC7C8FF);
        Check.dueColour("14: CLIP above", pair(0xFFF00000, 0xFFFFFFFF, 14).see(0, 0), 0xFFFFB7B7);
        Check.dueColour("15: CLIP below", pair(0xFF000000, 0xFF0AFF0A, 15).see(0, 0), 0xFF006500);
        Check.dueColour("13: at its end", pair(0xFFFFFFFF, 0xFFFF00FF, 13).see(0, 0), 0xFFFFFFFF);
    }

    private static void partlyThere() {
        PictureStudio s = pair(0x80C86432, 0xC864C81E, 1);
        s.set(1, 0, 100);
        // e 78, den 42546; R: t = MIX(100, 78, 128) = 89, (255 78 89 + 177 128 200 + 21273) / 42546
        Check.dueColour("over what is partly there, mode 1", s.see(0, 0), 0xA7947623);
        PictureStudio none = pair(0, 0xFF102030, 1);
        Check.dueColour("over nothing the mode doesn't count", none.see(0, 0), 0xFF102030);
        PictureStudio gone = pair(0xFF102030, 0x00FFFFFF, 9);
        Check.dueColour("A 0 changes nothing", gone.see(0, 0), 0xFF102030);
    }

    private static void groups() {
        PictureStudio s = Check.studio(1, 1);
        s.layer(2, -1, 0);
        s.layer(1, -1, 1);
        s.layer(2, 1, 0);
        s.colours(0, 0xFFC86432, 0);
        s.colours(2, 0xFF64C81E, 0);
        s.set(2, 1, 1);
        Check.dueColour("within a GROUP there is nothing below", s.see(0, 0), 0xFF64C81E);
        s.set(1, 1, 1);
        Check.dueColour("a GROUP's own mode", s.see(0, 0), 0xFF4E4E06);
        s.set(1, 0, 0);
        Check.dueColour("a GROUP's opacity", s.see(0, 0), 0xFFC86432);
        s.set(1, 0, 255);
        s.set(1, 2, 0);
        Check.dueColour("a GROUP that isn't shown", s.see(0, 0), 0xFFC86432);
        PictureStudio deep = Check.studio(2, 2);
        for (int i = 0; i < 29; i++) {
            deep.layer(1, i - 1, 0);
        }
        deep.layer(2, 28, 0);
        deep.colours(29, 0x7F010203, 0);
        Check.dueColour("as deep as LAYERS go", deep.see(1, 1), 0x7F010203);
    }

    private static void clipping() {
        PictureStudio s = Check.studio(1, 1);
        for (int i = 0; i < 4; i++) {
            s.layer(2, -1, i);
        }
        s.colours(0, 0xFF000000, 0);
        s.colours(1, 0x80FFFFFF, 0);
        s.colours(2, 0xFFFF0000, 0);
        s.colours(3, 0xFF0000FF, 0);
        s.set(2, 3, 1);
        Check.dueColour("all of it", s.see(0, 0), 0xFF0000FF);
        s.set(3, 2, 0);
        Check.dueColour("clipped by A 128", s.see(0, 0), 0xFFC04040);
        s.set(3, 2, 1);
        s.set(3, 3, 1);
        Check.dueColour("the next clipped one by the same", s.see(0, 0), 0xFF6020A0);
        s.set(1, 0, 128);
        s.set(3, 2, 0);
        Check.dueColour("by its opacity, too", s.see(0, 0), 0xFF703030);
        s.set(1, 2, 0);
        Check.dueColour("by one that isn't shown: by 0", s.see(0, 0), 0xFF000000);
        s.set(0, 3, 1);
        s.set(1, 2, 1);
        s.set(1, 3, 1);
        Check.dueColour("by none: by 0", s.see(0, 0), 0);
        s.set(0, 3, 0);
        Check.dueColour("all by the lowest", s.see(0, 0), 0xFFFF0000);
        s.layer(4, -1, 1);
        Check.dueColour("by a CURVED one: by 0", s.see(0, 0), 0xFF000000);
        s.set(4, 3, 1);
        Check.dueColour("a clipped CURVED one is passed over", s.see(0, 0), 0xFFFF0000);
    }

    private static void mask() {
        PictureStudio s = Check.studio(2, 1);
        s.layer(2, -1, 0);
        s.colours(0, -1, 0);
        Check.bad("how -1", () -> s.mask(0, -1));
        Check.bad("how 4", () -> s.mask(0, 4));
        Check.bad("bad comes ahead of missing", () -> s.mask(1, 4));
        Check.missing("a LAYER that isn't there", () -> s.mask(1, 0));
        Check.missing("missing comes ahead of REFUSED", () -> s.mask(1, 2));
        Check.refused("turned without one", () -> s.mask(0, 2));
        s.mask(0, 3);
        Check.due("all 255", s.masked(0, 1, 0), 255);
        s.select(1, 0, 0, 0, 1, 1);
        s.mask(0, 1);
        Check.due("as the SELECTION", s.masked(0, 0, 0), 255);
        Check.due("as the SELECTION", s.masked(0, 1, 0), 0);
        s.select(0, 0, 0, 0, 0, 0);
        Check.due("the SELECTION's change leaves it", s.masked(0, 1, 0), 0);
        Check.dueColour("seen by it", s.see(0, 0), -1);
        Check.dueColour("seen by it", s.see(1, 0), 0);
        s.mask(0, 2);
        Check.due("turned", s.masked(0, 0, 0), 0);
        Check.due("turned", s.masked(0, 1, 0), 255);
        s.set(0, 4, 1);
        Check.dueColour("a MASK isn't shifted", s.see(1, 0), -1);
        s.mask(0, 0);
        Check.due("none", s.masked(0, 1, 0), -1);
        s.undo();
        Check.due("it is there again", s.masked(0, 1, 0), 255);
        s.select(2, 0, 0, 0, 2, 1);
        s.mask(0, 1);
        Check.dueColour("partly", s.see(0, 0), 0xDFFFFFFF);
    }

    private static void colours() {
        PictureStudio s = Check.studio(1, 1);
        for (int kind = 0; kind < 6; kind++) {
            s.layer(kind, -1, kind);
        }
        Check.bad("PIXELS", () -> s.colours(0, 0, 0));
        Check.bad("a GROUP", () -> s.colours(1, 0, 0));
        Check.bad("CURVE -1", () -> s.colours(4, -1, 0));
        Check.bad("CURVE 8", () -> s.colours(4, 8, 0));
        Check.bad("FILTER -1", () -> s.colours(5, -1, 0));
        Check.bad("FILTER 14", () -> s.colours(5, 14, 0));
        Check.missing("a LAYER that isn't there", () -> s.colours(6, 99, 99));
        int[] least = {1, 0, 0, 0, 0, 2, 0, 2, 0, 0, 0, 0, 0, 0};
        int[] most = {4, 255, 0, 0, 0, 8, 255, 64, 0, 255, 0, 0, 255, 255};
        for (int f = 0; f < 14; f++) {
            int kind = f;
            Check.bad("amount below, FILTER " + f, () -> s.colours(5, kind, least[kind] - 1));
            Check.bad("amount above, FILTER " + f, () -> s.colours(5, kind, most[kind] + 1));
            s.colours(5, f, most[f]);
            Check.due("the greatest amount", s.about(5, 11), most[f]);
            s.colours(5, f, least[f]);
            Check.due("the FILTER", s.about(5, 10), f);
        }
    }

    private static void ramp() {
        PictureStudio s = Check.studio(5, 1);
        s.layer(3, -1, 0);
        s.layer(2, -1, 1);
        s.set(1, 2, 0);
        s.colours(0, 0xFF0000FF, 0x7FFF0000);
        Check.dueColour("two points that are one: p", s.see(4, 0), 0xFF0000FF);
        s.ramp(0, 1, 0, 3, 0);
        int[] due = {0xFF0000FF, 0xFF0000FF, 0xBF7F0080, 0x7FFF0000, 0x7FFF0000};
        for (int x = 0; x < 5; x++) {
            Check.dueColour("at " + x, s.see(x, 0), due[x]);
        }
        s.ramp(0, 4, 0, 1, 3);
        Check.dueColour("across: v 3, n 18, u 42", s.see(3, 0), 0xEA2A00D5);
        s.set(0, 0, 255);
        int[] points = {4, 0, 1, 3};
        for (int i = 0; i < 4; i++) {
            Check.due("other EDITS leave its points", s.about(0, 12 + i), points[i]);
        }
        PictureStudio t = Check.studio(1, 4);
        t.layer(3, -1, 0);
        t.colours(0, 0xFF000000, 0xFFFFFFFF);
        t.ramp(0, 0, 3, 0, 0);
        Check.dueColour("upwards: v 3, n 9", t.see(0, 2), 0xFF555555);
        Check.dueColour("upwards: at its end", t.see(0, 0), 0xFFFFFFFF);
        Check.bad("a FILL has no points", () -> s.ramp(1, 0, 0, 0, 0));
        Check.missing("a LAYER that isn't there", () -> s.ramp(2, 0, 0, 0, 0));
        for (int i = 0; i < 4; i++) {
            int k = i;
            Check.bad("-101", () -> s.ramp(0, k == 0 ? -101 : 0, k == 1 ? -101 : 0, k == 2 ? -101 : 0, k == 3 ? -101 : 0));
            Check.bad("101, ahead of missing", () -> s.ramp(2, k == 0 ? 101 : 0, k == 1 ? 101 : 0, k == 2 ? 101 : 0,
                k == 3 ? 101 : 0));
        }
        s.ramp(0, -100, 100, 100, -100);
        Check.due("the ends of the range", s.about(0, 14), 100);
    }

    private static void curved() {
        PictureStudio s = pair(0xFF0A64C8, 0, 0);
        s.layer(4, -1, 2);
        Check.dueColour("without points", s.see(0, 0), 0xFF0A64C8);
        s.curve(0, 0, 20, 40);
        Check.dueColour("R: before the first", s.see(0, 0), 0xFF2864C8);
        s.curve(0, 1, 80, 200);
        Check.dueColour("G: behind the last", s.see(0, 0), 0xFF28C8C8);
        s.curve(0, 1, 120, 100);
        Check.dueColour("G: between, falling", s.see(0, 0), 0xFF2896C8);
        s.curve(0, 1, 99, 7);
        Check.dueColour("G: between others: 7 + 93 / 21", s.see(0, 0), 0xFF280BC8);
        s.curve(0, 1, 100, 8);
        Check.dueColour("G: at a point", s.see(0, 0), 0xFF2808C8);
        s.curve(0, 1, 100, 9);
        Check.dueColour("G: in place of that point", s.see(0, 0), 0xFF2809C8);
        s.curve(0, 1, 100, 8);
        s.curve(0, 3, 8, 0);
        s.curve(0, 3, 200, 192);
        Check.dueColour("all three, behind the channels", s.see(0, 0), 0xFF2000C0);
        s.colours(2, 7, 0);
        Check.dueColour("another CURVE", s.see(0, 0), 0xFF0A64C8);
        s.curve(7, 2, 0, 0);
        s.set(2, 0, 128);
        Check.dueColour("by its opacity: MIX", s.see(0, 0), 0xFF0A6464);
    }

    private static void live() {
        PictureStudio s = Check.canvas(3, 1);
        Check.paint(s, 0, 0xFF0000FF, 0, 0x80102030);
        s.layer(5, -1, 1);
        Check.dueColour("FILTER 8 at first", s.see(0, 0), 0xFFFFFF00);
        Check.dueColour("also where nothing is", s.see(1, 0), 0x00FFFFFF);
        Check.dueColour("A as it is", s.see(2, 0), 0x80EFDFCF);
        s.set(1, 0, 51);
        Check.dueColour("by its opacity", s.see(0, 0), 0xFF3333CC);
        Check.dot(s, 0, 1, 0, 0xFF404040);
        s.set(1, 0, 1);
        Check.dueColour("MIX(64, 191, 1) is 64", s.see(1, 0), 0xFF404040);
        Check.dot(s, 0, 1, 0, 0);
        s.set(1, 0, 255);
        s.select(1, 0, 0, 0, 1, 1);
        s.mask(1, 1);
        Check.dueColour("by its MASK", s.see(2, 0), 0x80102030);
        s.mask(1, 0);
        s.set(1, 3, 1);
        Check.dueColour("clipped by A 255", s.see(0, 0), 0xFFFFFF00);
        Check.dueColour("clipped by A 0", s.see(1, 0), 0);
        Check.dueColour("clipped by A 128", s.see(2, 0), 0x80808080);
        s.set(1, 3, 0);
        s.layer(2, -1, 2);
        Check.dueColour("a LAYER of A 0 above: what isn't there becomes 0", s.see(1, 0), 0);
        s.drop(2);
        s.colours(1, 0, 1);
        Check.dueColour("soft, over the places around", s.see(1, 0), 0x80050BBA);
    }

    private static void liveLooksAtItsParent() {
        PictureStudio s = Check.studio(1, 1);
        s.layer(2, -1, 0);
        s.colours(0, 0xFF000000, 0);
        s.layer(1, -1, 1);
        s.layer(5, 1, 0);
        Check.dueColour("a LIVE in a GROUP sees nothing below the GROUP", s.see(0, 0), 0xFF000000);
        s.layer(2, 1, 0);
        s.colours(3, 0xFF0000FF, 0);
        Check.dueColour("but what is below it there", s.see(0, 0), 0xFFFFFF00);
        s.layer(2, 1, 2);
        s.colours(4, 0xFF123456, 0);
        Check.dueColour("and nothing above it", s.see(0, 0), 0xFF123456);
    }

    private static void shifted() {
        PictureStudio s = Check.canvas(2, 2);
        Check.paint(s, 0, 1 << 24, 2 << 24, 3 << 24, 4 << 24);
        s.set(0, 4, 1);
        Check.dueColour("right", s.see(1, 0), 1 << 24);
        Check.dueColour("what comes in is 0", s.see(0, 0), 0);
        s.set(0, 5, -1);
        Check.dueColour("up", s.see(1, 0), 3 << 24);
        Check.dueColour("its own pixels stay", s.pixel(0, 1, 1), 4 << 24);
        s.set(0, 4, 64);
        s.set(0, 5, 64);
        Check.due("nothing is left", s.hash(), 0);
        s.set(0, 4, -64);
        s.set(0, 5, -64);
        Check.due("nothing is left", s.hash(), 0);
    }

    private static void see() {
        PictureStudio s = Check.studio(17, 9);
        s.layer(2, -1, 0);
        s.colours(0, 0x01020304, 0);
        Check.missing("x -1", () -> s.see(-1, 0));
        Check.missing("x 17", () -> s.see(17, 0));
        Check.missing("y -1", () -> s.see(0, -1));
        Check.missing("y 9", () -> s.see(0, 9));
        Check.due("no TILE is worked out then", s.count(5), 0);
        int[][] places = {{0, 0, 1}, {7, 7, 1}, {8, 0, 2}, {16, 0, 3}, {16, 8, 4}, {0, 8, 5}, {15, 8, 6}, {16, 8, 6}};
        for (int[] place : places) {
            Check.dueColour("see", s.see(place[0], place[1]), 0x01020304);
            Check.due("TILES worked out", s.count(5), place[2]);
            Check.due("TILES KEPT", s.count(6), place[2]);
        }
        s.zoomed(1, 0, 0);
        s.hash();
        s.made(-1);
        s.select(3, 0, 0, 0, 0, 0);
        s.front(5);
        s.profile(0, 0, 1);
        Check.due("these leave TILES alone", s.count(6), 6);
        s.curve(0, 0, 1, 1);
        Check.due("curve keeps none", s.count(6), 0);
        s.see(0, 0);
        Check.bad("a bad one", () -> s.curve(0, 0, 1, 256));
        Check.bad("a bad one", () -> s.kernel(0, 101));
        Check.due("keeps all", s.count(6), 1);
        s.kernel(0, 0);
        Check.due("kernel keeps none", s.count(6), 0);
        s.see(0, 0);
        s.set(0, 0, 255);
        Check.due("another EDIT keeps none, though nothing changed", s.count(6), 0);
        Check.due("TILES worked out so far", s.count(5), 8);
    }

    /** Sees all nine TILES. */
    private static void seeAll(PictureStudio s) {
        for (int y = 0; y < 24; y += 8) {
            for (int x = 0; x < 24; x += 8) {
                s.see(x, y);
            }
        }
        Check.due("all are KEPT", s.count(6), 9);
    }

    private static void tilesForgotten() {
        PictureStudio s = Check.canvas(24, 24);
        seeAll(s);
        s.select(1, 0, 7, 7, 1, 1);
        s.fill(0, 0);
        Check.due("a fill of one pixel: one TILE goes", s.count(6), 8);
        Check.dueColour("it is seen", s.see(7, 7), 0xFF000000);
        Check.due("one TILE is worked out again", s.count(5), 10);
        s.fill(0, 0);
        Check.due("no pixel changed: all are KEPT", s.count(6), 9);
        Check.due("though it is an EDIT", s.count(3), 3);
        s.select(1, 0, 7, 7, 2, 1);
        s.filter(0, 8, 0);
        Check.due("a filter over two TILES", s.count(6), 7);
        seeAll(s);
        s.select(0, 0, 0, 0, 0, 0);
        s.brush(1, 255, 2, 255, 255);
        s.point(4 * 16 + 2, 4 * 15 + 2, 255);
        s.stroke(0, 0);
        Check.due("a stroke on one pixel; what isn't there at 8, 7 becomes 0", s.count(6), 5);
        seeAll(s);
        s.step(0, 0, 0, 0);
        s.step(0, 1, 16 * 24, 0);
        s.step(0, 1, 0, 16);
        s.path(0, 0, 0);
        Check.due("a path over three TILES", s.count(6), 6);
        seeAll(s);
        s.glyph(65, 0, 0);
        Check.feedBytes(s, (byte) 65);
        s.text(0, 0, 160);
        Check.due("a text over three TILES", s.count(6), 6);
        seeAll(s);
        s.set(0, 5, 9);
        seeAll(s);
        s.select(1, 0, 0, 16, 1, 1);
        s.fill(0, 2);
        Check.due("shifted down by 9 into the lowest row", s.count(6), 8);
        s.see(0, 23);
        Check.due("it was the TILE there", s.count(6), 9);
        s.set(0, 5, 0);
        Check.dot(s, 0, 23, 23, 0xFF00FF00);
        Check.dueColour("the last pixel", s.see(23, 23), 0xFF00FF00);
        seeAll(s);
        s.turn(0, 0);
        Check.due("turn keeps none", s.count(6), 0);
        seeAll(s);
        s.few(0, 2, false);
        Check.due("few keeps none", s.count(6), 0);
    }

    private static void tilesBeyondTheEnds() {
        PictureStudio s = Check.canvas(20, 20);
        seeAllOf20(s);
        s.set(0, 4, 10);
        seeAllOf20(s);
        s.layer(5, -1, 1);
        seeAllOf20(s);
        s.select(0, 0, 0, 0, 0, 0);
        s.brush(1, 255, 2, 255, 255);
        s.point(4 * 11 + 2, 2, 255);
        Check.due("a pixel is shifted out of what is seen: the SELECTION is 0 there", s.stroke(0, 0), 0);
        Check.due("so it keeps all", s.count(6), 9);
        s.set(0, 4, 0);
        s.fill(0, 0);
        s.set(0, 4, 3);
        seeAllOf20(s);
        s.point(4 * 16 + 2, 2, 255);
        Check.due("one that is seen", s.stroke(0, 1), 1);
        Check.due("keeps eight", s.count(6), 8);
    }

    private static void seeAllOf20(PictureStudio s) {
        for (int y = 0; y < 20; y += 8) {
            for (int x = 0; x < 20; x += 8) {
                s.see(x, y);
            }
        }
        Check.due("all are KEPT", s.count(6), 9);
    }

    private static void tilesByReach() {
        PictureStudio s = Check.canvas(24, 24);
        s.layer(5, -1, 1);
        s.layer(5, -1, 2);
        s.colours(1, 0, 2);
        s.colours(2, 4, 0);
        s.set(2, 2, 0);
        seeAll(s);
        s.select(1, 0, 12, 12, 1, 1);
        s.fill(0, 0);
        Check.due("within a REACH of 3: 9 to 15", s.count(6), 8);
        seeAll(s);
        s.select(1, 0, 11, 12, 1, 1);
        s.fill(0, 0);
        Check.due("8 to 14", s.count(6), 8);
        seeAll(s);
        s.select(1, 0, 10, 12, 1, 1);
        s.fill(0, 0);
        Check.due("7 to 13 meets the TILE on the left", s.count(6), 7);
        seeAll(s);
        s.select(1, 0, 13, 13, 1, 1);
        s.fill(0, 0);
        Check.due("10 to 16 meets three more", s.count(6), 5);
        Check.dueColour("what is seen there is new: four of 25 pixels", s.see(12, 12), 0x29000000);
    }

    private static void zoomed() {
        PictureStudio s = Check.canvas(5, 3);
        Check.paint(s, 0, 0xFF0000FF, 0x80FF0000, 0, 0, 0xFF010203, 0xFF00FF00);
        Check.bad("z 0", () -> s.zoomed(0, 0, 0));
        Check.bad("z 4", () -> s.zoomed(4, 0, 0));
        Check.bad("bad comes ahead of missing", () -> s.zoomed(4, -1, 0));
        Check.missing("x -1", () -> s.zoomed(1, -1, 0));
        Check.missing("y -1", () -> s.zoomed(1, 0, -1));
        Check.missing("x 3", () -> s.zoomed(1, 3, 0));
        Check.missing("y 2", () -> s.zoomed(1, 0, 2));
        Check.missing("far", () -> s.zoomed(1, 1 << 30, 0));
        Check.missing("far", () -> s.zoomed(3, 0, 1 << 29));
        // a = 255 + 128 + 255 = 638; A (638 + 2) / 4; R (255 128 + 319) / 638; G, B (255 255 + 319) / 638
        Check.dueColour("four pixels", s.zoomed(1, 0, 0), 0xA0336666);
        Check.dueColour("two pixels of which one is there", s.zoomed(1, 2, 0), 0x80010203);
        Check.dueColour("none is there", s.zoomed(1, 1, 1), 0);
        Check.dueColour("all of it: a 893, n 15", s.zoomed(3, 0, 0), 0x3C25494A);
        Check.dueColour("by four", s.zoomed(2, 1, 0), 0x55010203);
        Check.due("no TILES are asked", s.count(5), 0);
    }

    private static void hash() {
        PictureStudio s = Check.canvas(2, 2);
        Check.paint(s, 0, 0x01000000, 0x02000001, 0x03000010, 0xFF123456);
        int due = 0;
        for (int i = 0; i < 4; i++) {
            due = 31 * due + s.see(i % 2, i / 2);
        }
        Check.due("hash", s.hash(), due);
        Check.due("hash in numbers", s.hash(),
            ((0x01000000 * 31 + 0x02000001) * 31 + 0x03000010) * 31 + 0xFF123456);
    }

    private static void pixelAndMasked() {
        PictureStudio s = Check.canvas(2, 3);
        s.layer(2, -1, 1);
        Check.missing("pixel: a LAYER that isn't there", () -> s.pixel(2, 0, 0));
        Check.missing("pixel: another KIND", () -> s.pixel(1, 0, 0));
        Check.missing("masked: a LAYER that isn't there", () -> s.masked(2, 0, 0));
        int[][] beyond = {{-1, 0}, {2, 0}, {0, -1}, {0, 3}};
        for (int[] place : beyond) {
            Check.missing("pixel beyond", () -> s.pixel(0, place[0], place[1]));
            Check.missing("masked beyond", () -> s.masked(0, place[0], place[1]));
            Check.missing("selected beyond", () -> s.selected(place[0], place[1]));
        }
        Check.dueColour("pixel at first", s.pixel(0, 1, 2), 0);
        Check.due("masked at first", s.masked(0, 1, 2), -1);
        s.mask(1, 3);
        Check.due("any KIND has a MASK", s.masked(1, 1, 2), 255);
    }
}
