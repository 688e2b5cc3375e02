import java.util.function.Consumer;

/** Boundary cases of a new object, the DOCUMENT, the tree of LAYERS and HISTORY: promises 1 to 12, 15, 17, 44, 47 to 49. */
public final class EdgesLayersTest {
    public static void main(String[] args) {
        Check.sentence("A DOCUMENT of 8 by 8 without LAYERS; nothing else.", EdgesLayersTest::newObject);
        Check.sentence("amounts of the BRUSH: size 8, hard 255, spacing 4, flow, opacity 255;", EdgesLayersTest::newBrush);
        Check.sentence("KERNEL 0 but 1 in the middle, DIVISOR 1, OFFSET 0;", EdgesLayersTest::newKernel);
        Check.sentence("raw's black 0, gains 64; cx, cy 0.", EdgesLayersTest::newSettings);
        Check.sentence("The four bytes of each number, the highest first, come to INPUT: its length. FULL.", EdgesLayersTest::feed);
        Check.sentence("Only the first n bytes of INPUT stay: n. Bad: not 0 .. its length.", EdgesLayersTest::end);
        Check.sentence("Of the latest [INPUT] call what 0 the FAULT, 1 its place; else -1.", EdgesLayersTest::fault);
        Check.sentence("THE DOCUMENT is W by H pixels (1 .. 24 each; 8 by 8 at first).", EdgesLayersTest::sizes);
        Check.sentence("A new DOCUMENT: W, H; no LAYERS, no HISTORY, SELECTION all 255. Bad.", EdgesLayersTest::open);
        Check.sentence("LAYERS, numbered as they come, each number once, 0 .. 29.", EdgesLayersTest::numbers);
        Check.sentence("A LAYER of a KIND in a PARENT (-1 or a GROUP, else missing) at a place (0 .. how many there are): its number.",
            EdgesLayersTest::layer);
        Check.sentence("FILL, RAMP: 0 at first; CURVED: CURVE 0; LIVE: FILTER 8, 0.", EdgesLayersTest::newLayers);
        Check.sentence("It goes, with all IN it. Missing.", EdgesLayersTest::drop);
        Check.sentence("It comes to a PARENT at a place (0 .. how many there are without it). Bad place, missing; REFUSED: into itself "
            + "or IN it.", EdgesLayersTest::move);
        Check.sentence("Its what 0 opacity, 1 mode, 2 shown (0, 1), 3 clipped (0, 1), 4 dx, 5 dy (any KIND). Bad, missing.",
            EdgesLayersTest::set);
        Check.sentence("Its MASK: how 0 none, 1 as the SELECTION, 2 turned (255 less), 3 all 255; 2 without one: REFUSED. Bad, missing.",
            EdgesLayersTest::mask);
        Check.sentence("FILL: COLOUR p (q counts as 0); RAMP: COLOURS p, q; CURVED: CURVE p (0 .. 7; q counts as 0); LIVE: FILTER p "
            + "with amount q. Bad (other KINDS, too), missing.", EdgesLayersTest::colours);
        Check.sentence("A RAMP's points (-100 .. 100 each). Bad (other KINDS, too), missing.", EdgesLayersTest::ramp);
        Check.sentence("It becomes PIXELS (dx, dy 0) with what is seen of a PARENT with just it (opacity and MASK counted, as shown "
            + "and not clipped), then opacity 255, mode 0, no MASK; all IN it go. REFUSED: CURVED, LIVE. Missing.",
            EdgesLayersTest::flat);
        Check.sentence("REFUSED: none below, it is CURVED or LIVE, or the lower one is. Missing.", EdgesLayersTest::merge);
        Check.sentence("12 .. 15 a RAMP's points (0 for others). Bad, missing.", EdgesLayersTest::about);
        Check.sentence("EDITS are the calls told so (also if no pixel changed).", EdgesLayersTest::edits);
        Check.sentence("undo takes the latest one back, redo does it again: all LAYERS with all that is theirs are as before it, "
            + "behind it.", EdgesLayersTest::undoEach);
        Check.sentence("At most 24 can be undone (the oldest go);", EdgesLayersTest::oldestGo);
        Check.sentence("a new EDIT drops those undone.", EdgesLayersTest::newEditDrops);
        Check.sentence("are no LAYERS: they stay.", EdgesLayersTest::settingsStay);
        Check.sentence("Numbers of LAYERS that an undone EDIT made are given again.", EdgesLayersTest::numbersAgain);
        Check.sentence("How many EDITS can be undone then. REFUSED: none.", EdgesLayersTest::undo);
        Check.sentence("How many can be undone then. REFUSED: none undone.", EdgesLayersTest::redo);
        Check.sentence("5 TILES worked out so far (open, too, leaves them)", EdgesLayersTest::count);
        Check.done("EdgesLayersTest");
    }

    // ---- A new object

    private static void newObject() {
        PictureStudio s = new PictureStudio();
        for (int what = 0; what < 10; what++) {
            Check.due("count(" + what + ")", s.count(what), what < 2 ? 8 : 0);
        }
        Check.dueColour("the last pixel", s.see(7, 7), 0);
        Check.missing("right of it", () -> s.see(8, 0));
        Check.missing("below it", () -> s.see(0, 8));
        Check.missing("no LAYER 0", () -> s.about(0, 0));
        Check.due("hash of nothing", s.hash(), 0);
        Check.due("OUT", s.octets(-1), 0);
        Check.due("fault(0)", s.fault(0), 0);
        Check.due("fault(1)", s.fault(1), 0);
        Check.refused("nothing to undo", () -> s.undo());
        Check.refused("nothing to do again", () -> s.redo());
        Check.due("all of the SELECTION is above 0", s.reselect(1, 8), 64);
        Check.due("all of it is 255", s.reselect(0, 0), 0);
        Check.due("a box of the SELECTION", s.select(1, 0, 3, 5, 2, 1), 2);
        int[][] places = {{2, 5, 0}, {3, 5, 255}, {4, 5, 255}, {5, 5, 0}, {3, 4, 0}, {3, 6, 0}};
        for (int[] place : places) {
            Check.due("the SELECTION", s.selected(place[0], place[1]), place[2]);
        }
        s.select(0, 0, 0, 0, 0, 0);
        s.layer(0, -1, 0);
        Check.due("FRONT 255 2^24", s.fill(0, 2), 64);
        Check.due("FRONT 255 2^24", s.see(7, 7), 255 << 24);
        Check.refused("no POINTS", () -> s.stroke(0, 0));
        for (int p = 0; p < 8; p++) {
            Check.due("an empty PATH", s.select(6, 0, p, 0, 0, 0), 0);
        }
    }

    private static int strokeAtFirst(int... places) {
        PictureStudio s = new PictureStudio();
        s.layer(0, -1, 0);
        for (int x : places) {
            s.point(x, 2, 255);
        }
        s.stroke(0, 0);
        int far = -1;
        for (int x = 0; x < 8; x++) {
            int c = s.pixel(0, x, 0);
            Check.due("whole or nothing: flow, opacity, hard are 255", c == 0 || c == 0xFF000000 ? 1 : 0, 1);
            far = c == 0 ? far : x;
        }
        return far;
    }

    private static void newBrush() {
        Check.due("size 8: as far as 8 quarters, hard", strokeAtFirst(2), 2);
        Check.due("size 8: not 9 quarters", strokeAtFirst(1), 1);
        Check.due("spacing 4: a DAB at 6", strokeAtFirst(2, 6), 3);
        Check.due("spacing 4: none at 5", strokeAtFirst(2, 5), 2);
        Check.due("spacing 4: at 8, not at 10", strokeAtFirst(4, 10), 3);
        Check.due("spacing 4: at 12", strokeAtFirst(4, 12), 4);
    }

    private static void newKernel() {
        PictureStudio s = Check.studio(3, 3);
        int[] colours = {0xFF010203, 0xFF102030, 0xFF405060, 0x80708090, 0xFFA0B0C0, 0x01D0E0F0, 0xFFFFFFFF, 0x00112233, 0xFF000000};
        Check.picture(s, colours);
        Check.due("it leaves all", s.filter(0, 10, 0), 0);
        s.kernel(4, 0);
        s.filter(0, 10, 0);
        for (int i = 0; i < 9; i++) {
            Check.dueColour("without the middle one all is 0", s.pixel(0, i % 3, i / 3), colours[i] & 0xFF000000);
        }
    }

    private static void newSettings() {
        PictureStudio s = Check.studio(2, 2);
        Check.feedBytes(s, new byte[] {0, 16, 0, 32, 0, 32, 15, -1});
        s.raw();
        Check.dueColour("black 0, gains 64", s.pixel(0, 0, 0), 0xFF0102FF);
        PictureStudio c = Check.canvas(2, 1);
        Check.paint(c, 0, 0x80102030, 0x40405060);
        c.point(2, 2, 255);
        c.stroke(0, 2);
        Check.duePixels("cx, cy 0: each over itself", c, 0, 0xC0102030, 0x70405060);
        PictureStudio g = new PictureStudio();
        g.layer(0, -1, 0);
        for (int p = 0; p < 8; p++) {
            g.step(p, 0, 0, 0);
            g.step(p, 1, 128, 0);
            g.step(p, 1, 128, 128);
        }
        for (int b = 0; b < 256; b += 20) {
            byte[] bytes = new byte[20];
            for (int i = 0; i < 20; i++) {
                bytes[i] = (byte) (b + i);
            }
            Check.feedBytes(g, bytes);
            Check.due("no GLYPHS", g.text(0, 0, 0), 0);
        }
    }

    // ---- INPUT

    private static void feed() {
        PictureStudio s = Check.studio(5, 2);
        Check.due("its length", s.feed(0x0123_0456, 0x0789_0ABC, 0x0DEF_0FED, 0x0CBA_0987, 0x0654_0321), 20);
        s.raw();
        int[] due = {0x12, 0x45, 0x78, 0xAB, 0xDE, 0xFE, 0xCB, 0x98, 0x65, 0x32};
        for (int i = 0; i < 10; i++) {
            int x = i % 5;
            int y = i / 5;
            int own = x % 2 != y % 2 ? 1 : x % 2 == 0 ? 0 : 2;
            Check.due("the highest byte first, pair " + i, Told.sample(s.pixel(0, x, y), own), due[i]);
        }
        Check.due("a new INPUT", s.feed(-1, Integer.MIN_VALUE, Integer.MAX_VALUE, 0, 1), 20);
        Check.due("more", s.feed(0, 0, 0, 0, 0), 40);
        Check.faulty("bytes of -1", s, () -> frame(s, 20), 2, 0);
        s.feed(0x0FFF0FFF, 0x0FFF8000, 0, 0, 0);
        Check.faulty("the lowest two of 0x0FFF8000", s, () -> frame(s, 20), 2, 6);
    }

    private static void frame(PictureStudio s, int n) {
        s.end(n);
        s.raw();
    }

    private static void end() {
        PictureStudio s = Check.canvas(2, 1);
        Check.due("none of none", s.end(0), 0);
        Check.bad("one of none", () -> s.end(1));
        s.feed(0, 0, 0, 0, 0);
        Check.ends("of 20", 0, 20, v -> {
            s.feed(0, 0, 0, 0, 0);
            s.end(20);
            Check.due("n", s.end(v), v);
        });
        s.end(0);
        s.feed(0x41424344, 0, 0, 0, 0);
        s.end(1);
        Check.box(s, 0, 0, 0, 16, 16);
        s.glyph(0x41, 0, 16);
        s.glyph(0x42, 0, 16);
        Check.due("the byte behind doesn't count", s.text(0, 0, 0), 1);
    }

    private static void fault() {
        PictureStudio s = Check.studio(1, 1);
        Check.feedBytes(s, new byte[] {16, 0});
        Check.faulty("4096", s, () -> s.raw(), 2, 0);
        int[] others = {-1, 2, Integer.MIN_VALUE, Integer.MAX_VALUE};
        for (int what : others) {
            Check.due("fault(" + what + ")", s.fault(what), -1);
        }
    }

    // ---- The DOCUMENT

    private static void sizes() {
        PictureStudio s = new PictureStudio();
        Check.ends("w", 1, 24, v -> s.open(v, 3));
        Check.ends("h", 1, 24, v -> s.open(3, v));
        s.open(1, 1);
        Check.due("one pixel", s.reselect(1, 1), 1);
        Check.missing("no second one", () -> s.see(1, 0));
        Check.missing("no second one", () -> s.see(0, 1));
        s.open(24, 24);
        Check.due("576 pixels", s.reselect(1, 1), 576);
        Check.due("the last one", s.see(23, 23), 0);
        Check.missing("no 25th", () -> s.see(24, 0));
        Check.missing("no 25th", () -> s.see(0, 24));
        s.layer(0, -1, 0);
        Check.due("all are filled", s.fill(0, 0), 576);
    }

    private static void open() {
        PictureStudio s = Check.canvas(3, 3);
        s.layer(2, -1, 1);
        s.undo();
        s.select(1, 0, 0, 0, 1, 1);
        s.point(1, 1, 1);
        s.feed(1, 2, 3, 4, 5);
        s.made(-1);
        long out = s.octets(-1);
        s.see(0, 0);
        Check.due("a TILE is KEPT", s.count(6), 1);
        s.open(3, 3);
        int[] due = {3, 3, 0, 0, 0, 1, 0, 1, 20, 0};
        for (int what = 0; what < 10; what++) {
            Check.due("count(" + what + ") behind open", s.count(what), due[what]);
        }
        Check.due("SELECTION all 255", s.reselect(0, 0), 0);
        Check.due("OUT stays", s.octets(-1), out);
        Check.refused("no HISTORY", () -> s.undo());
        Check.refused("no HISTORY", () -> s.redo());
        Check.due("numbers from 0 on", s.layer(2, -1, 0), 0);
        Check.due("and what is new can be undone", s.undo(), 0);
        s.open(2, 1);
        s.reselect(0, 0);
        s.open(1, 2);
        Check.due("SELECTION all 255", s.selected(0, 1), 255);
    }

    // ---- The tree

    private static void numbers() {
        PictureStudio s = Check.studio(1, 1);
        for (int i = 0; i < 30; i++) {
            Check.due("its number", s.layer(i % 6, -1, 0), i);
            if (i % 3 == 0) {
                s.drop(i);
            }
        }
        Check.due("those there are", s.count(2), 20);
        Check.full("no number 30", () -> s.layer(0, -1, 0));
        Check.missing("no LAYER 30", () -> s.about(30, 0));
        Check.missing("no LAYER -1", () -> s.about(-1, 0));
        Check.due("LAYER 29", s.about(29, 0), 5);
        Check.missing("LAYER 0 was dropped", () -> s.about(0, 0));
        s.undo();
        Check.due("the last number again", s.layer(2, -1, 0), 29);
        Check.full("then none", () -> s.layer(0, -1, 0));
        s.feed(0, 0, 0, 0, 0);
        s.end(2);
        Check.full("none for a frame", () -> s.raw());
        s.flat(29);
        Check.due("what needs none goes on", s.about(29, 0), 0);
    }

    private static void layer() {
        PictureStudio s = Check.studio(1, 1);
        Check.ends("KIND", 0, 5, v -> s.layer(v, -1, 0));
        s.open(1, 1);
        s.layer(1, -1, 0);
        Check.bad("place -1 of none", () -> s.layer(2, 0, -1));
        Check.bad("place 1 of none", () -> s.layer(2, 0, 1));
        Check.due("place 0 of none", s.layer(2, 0, 0), 1);
        PictureStudio t = Check.studio(1, 1);
        t.layer(1, -1, 0);
        t.layer(2, 0, 0);
        t.layer(2, 0, 1);
        Check.bad("place 3 of two", () -> t.layer(2, 0, 3));
        Check.bad("place -1", () -> t.layer(2, 0, -1));
        Check.due("place 2 of two", t.layer(2, 0, 2), 3);
        Check.due("place 0 of three", t.layer(2, 0, 0), 4);
        int[] due = {0, 1, 2, 3, 0};
        for (int l = 0; l < 5; l++) {
            Check.due("the place of " + l, t.about(l, 2), due[l]);
        }
        Check.due("the DOCUMENT has its own places", t.layer(2, -1, 1), 5);
        Check.due("how many the GROUP has", t.about(0, 9), 4);
        int[] none = {-2, 1, 6, 29, 30, Integer.MIN_VALUE, Integer.MAX_VALUE};
        for (int parent : none) {
            Check.missing("PARENT " + parent, () -> t.layer(0, parent, 0));
        }
        for (int kind = 0; kind < 6; kind++) {
            PictureStudio k = Check.studio(1, 1);
            k.layer(kind, -1, 0);
            if (kind == 1) {
                Check.taken("a GROUP is a PARENT", () -> k.layer(0, 0, 0));
            } else {
                Check.missing("KIND " + kind + " is none", () -> k.layer(0, 0, 0));
            }
        }
        PictureStudio deep = Check.studio(1, 1);
        for (int i = 0; i < 30; i++) {
            Check.due("a GROUP in each other", deep.layer(1, i - 1, 0), i);
        }
        Check.due("the deepest one's PARENT", deep.about(29, 1), 28);
        Check.due("what is seen of them", deep.see(0, 0), 0);
        Check.refused("the highest into the deepest", () -> deep.move(0, 29, 0));
        deep.drop(0);
        Check.due("all go with it", deep.count(2), 0);
    }

    private static void newLayers() {
        PictureStudio s = Check.studio(2, 2);
        for (int kind = 0; kind < 6; kind++) {
            s.layer(kind, -1, kind);
            Check.due("nothing is seen of KIND " + kind, s.see(1, 1) >>> 24, 0);
            int[] due = {kind, -1, kind, 255, 0, 1, 0, 0, 0, 0, kind == 5 ? 8 : 0, 0, 0, 0, 0, 0};
            for (int what = 0; what < 16; what++) {
                Check.due("about(" + kind + ", " + what + ")", s.about(kind, what), due[what]);
            }
            Check.due("no MASK", s.masked(kind, 1, 1), -1);
        }
        Check.duePixels("all 0 at first", s, 0, 0, 0, 0, 0);
        s.curve(0, 3, 0, 7);
        s.drop(5);
        s.colours(2, 0xFF102030, 0);
        Check.dueColour("CURVED: by CURVE 0", s.see(0, 0), 0xFF070707);
        s.layer(5, -1, 5);
        Check.dueColour("LIVE: turned", s.see(0, 0), 0xFFF8F8F8);
    }

    private static void drop() {
        PictureStudio s = Check.studio(1, 1);
        s.layer(1, -1, 0);
        s.layer(1, 0, 0);
        s.layer(2, 1, 0);
        s.layer(2, 0, 1);
        s.layer(2, -1, 1);
        int[] none = {-1, 5, 29, 30, Integer.MIN_VALUE, Integer.MAX_VALUE};
        for (int l : none) {
            Check.missing("drop(" + l + ")", () -> s.drop(l));
        }
        s.drop(1);
        Check.due("it and what is IN it", s.count(2), 3);
        Check.missing("what is IN it", () -> s.about(2, 0));
        Check.due("not what stands beside it", s.about(3, 2), 0);
        s.drop(0);
        Check.due("one is left", s.count(2), 1);
        Check.due("the lowest now", s.about(4, 2), 0);
        s.drop(4);
        Check.due("none is left", s.count(2), 0);
        Check.missing("none to drop", () -> s.drop(4));
    }

    private static void move() {
        PictureStudio s = Check.studio(1, 1);
        s.layer(1, -1, 0);
        s.layer(1, 0, 0);
        s.layer(2, 1, 0);
        s.layer(2, -1, 1);
        s.layer(2, -1, 2);
        Check.ends("a place among its own PARENT's others", 0, 2, v -> s.move(4, -1, v));
        Check.due("the highest", s.about(4, 2), 2);
        Check.ends("a place among another PARENT's", 0, 1, v -> {
            s.move(4, -1, 0);
            s.move(4, 0, v);
        });
        Check.due("behind the one there", s.about(4, 2), 0);
        s.move(4, -1, 2);
        int[] none = {-1, 5, 30, Integer.MIN_VALUE, Integer.MAX_VALUE};
        for (int l : none) {
            Check.missing("LAYER " + l, () -> s.move(l, -1, 0));
        }
        int[] noParent = {-2, 2, 3, 5, 30, Integer.MAX_VALUE};
        for (int parent : noParent) {
            Check.missing("PARENT " + parent, () -> s.move(4, parent, 0));
        }
        Check.refused("into itself", () -> s.move(0, 0, 0));
        Check.refused("into itself, behind that IN it", () -> s.move(0, 0, 1));
        Check.bad("into itself, at a place that isn't there", () -> s.move(0, 0, 2));
        Check.refused("into that IN it", () -> s.move(0, 1, 1));
        Check.taken("that IN it out of it", () -> s.move(1, -1, 0));
        Check.taken("then into it", () -> s.move(0, 1, 1));
        Check.refused("the other way round", () -> s.move(1, 0, 0));
        int edits = s.count(3);
        s.move(3, -1, s.about(3, 2));
        Check.due("to where it is: an EDIT", s.count(3), Math.min(24, edits + 1));
    }

    private static void set() {
        int[][] ranges = {{0, 255}, {0, 15}, {0, 1}, {0, 1}, {-64, 64}, {-64, 64}};
        for (int kind = 0; kind < 6; kind++) {
            PictureStudio s = Check.studio(1, 1);
            s.layer(kind, -1, 0);
            for (int i = 0; i < 6; i++) {
                int what = i;
                Check.ends("set " + what + " of KIND " + kind, ranges[i][0], ranges[i][1], v -> s.set(0, what, v));
                Check.due("the greatest stays", s.about(0, 3 + what), ranges[i][1]);
                s.set(0, what, ranges[i][0]);
                Check.due("the least", s.about(0, 3 + what), ranges[i][0]);
            }
            Check.ends("what", 0, 5, v -> s.set(0, v, 0));
            Check.missing("LAYER 1", () -> s.set(1, 0, 0));
            Check.missing("LAYER -1", () -> s.set(-1, 0, 0));
        }
    }

    private static void mask() {
        for (int kind = 0; kind < 6; kind++) {
            PictureStudio s = Check.studio(2, 1);
            s.layer(kind, -1, 0);
            Check.refused("turned without one", () -> s.mask(0, 2));
            s.mask(0, 0);
            Check.refused("turned without one still", () -> s.mask(0, 2));
            Check.ends("how", 0, 3, v -> s.mask(0, v));
            Check.due("all 255", s.masked(0, 1, 0), 255);
            s.mask(0, 2);
            Check.due("turned: 255 less", s.masked(0, 1, 0), 0);
            s.select(2, 0, 0, 0, 2, 1);
            s.mask(0, 1);
            Check.due("as the SELECTION", s.masked(0, 0, 0), 223);
            s.select(1, 0, 0, 0, 0, 0);
            Check.due("it stays when the SELECTION goes", s.masked(0, 0, 0), 223);
            s.mask(0, 2);
            Check.due("turned: 255 less", s.masked(0, 0, 0), 32);
            s.mask(0, 1);
            Check.due("an empty SELECTION is a MASK", s.masked(0, 0, 0), 0);
            s.mask(0, 0);
            Check.due("none", s.masked(0, 0, 0), -1);
            Check.missing("LAYER 1", () -> s.mask(1, 0));
        }
        PictureStudio s = Check.studio(24, 24);
        s.layer(2, -1, 0);
        s.select(1, 0, 23, 23, 1, 1);
        s.mask(0, 1);
        Check.due("the last place", s.masked(0, 23, 23), 255);
        Check.due("the one before", s.masked(0, 22, 23), 0);
    }

    private static void colours() {
        PictureStudio s = Check.studio(1, 1);
        for (int kind = 0; kind < 6; kind++) {
            s.layer(kind, -1, kind);
        }
        int[] far = {Integer.MIN_VALUE, -1, 0, 1, Integer.MAX_VALUE};
        for (int p : far) {
            s.colours(2, p, 5);
            Check.due("any COLOUR of a FILL", s.about(2, 10), p);
            Check.due("q counts as 0", s.about(2, 11), 0);
            s.colours(3, p, ~p);
            Check.due("any COLOURS of a RAMP", s.about(3, 10), p);
            Check.due("any COLOURS of a RAMP", s.about(3, 11), ~p);
            s.colours(4, 3, p);
            Check.due("a CURVE, q counts as 0", s.about(4, 11), 0);
        }
        Check.ends("CURVE", 0, 7, v -> s.colours(4, v, 9));
        Check.due("CURVE 7", s.about(4, 10), 7);
        Check.bad("PIXELS", () -> s.colours(0, 0, 0));
        Check.bad("a GROUP", () -> s.colours(1, 0, 0));
        Check.missing("LAYER 6", () -> s.colours(6, 0, 0));
        Check.missing("LAYER -1", () -> s.colours(-1, 0, 0));
        PictureStudio f = Check.studio(1, 1);
        f.layer(5, -1, 0);
        int[] least = {1, 0, 0, 0, 0, 2, 0, 2, 0, 0, 0, 0, 0, 0};
        int[] most = {4, 255, 0, 0, 0, 8, 255, 64, 0, 255, 0, 0, 255, 255};
        for (int i = 0; i < 14; i++) {
            int kind = i;
            Check.ends("amount of FILTER " + kind, least[i], most[i], v -> f.colours(0, kind, v));
            Check.due("FILTER " + kind, f.about(0, 10), kind);
            Check.due("its amount", f.about(0, 11), most[i]);
        }
        Check.bad("FILTER -1", () -> f.colours(0, -1, 0));
        Check.bad("FILTER 14", () -> f.colours(0, 14, 0));
    }

    private static void ramp() {
        PictureStudio s = Check.studio(1, 1);
        for (int kind = 0; kind < 6; kind++) {
            s.layer(kind, -1, kind);
        }
        Check.ends("x0", -100, 100, v -> s.ramp(3, v, 1, 2, 3));
        Check.ends("y0", -100, 100, v -> s.ramp(3, 1, v, 2, 3));
        Check.ends("x1", -100, 100, v -> s.ramp(3, 1, 2, v, 3));
        Check.ends("y1", -100, 100, v -> s.ramp(3, 1, 2, 3, v));
        s.ramp(3, -100, 100, 99, -99);
        s.set(3, 0, 7);
        int[] due = {-100, 100, 99, -99};
        for (int i = 0; i < 4; i++) {
            Check.due("its points", s.about(3, 12 + i), due[i]);
        }
        for (int l = 0; l < 6; l++) {
            int other = l;
            if (l != 3) {
                Check.bad("KIND " + l, () -> s.ramp(other, 0, 0, 0, 0));
            }
        }
        Check.missing("LAYER 6", () -> s.ramp(6, 0, 0, 0, 0));
    }

    private static void flat() {
        PictureStudio s = Check.studio(2, 1);
        for (int kind = 0; kind < 6; kind++) {
            s.layer(kind, -1, 0);
        }
        Check.refused("CURVED", () -> s.flat(4));
        Check.refused("LIVE", () -> s.flat(5));
        Check.missing("LAYER 6", () -> s.flat(6));
        Check.missing("LAYER -1", () -> s.flat(-1));
        s.flat(1);
        Check.due("an empty GROUP", s.about(1, 0), 0);
        Check.duePixels("is nothing", s, 1, 0, 0);
        s.colours(2, 0x80C86432, 0);
        s.set(2, 0, 128);
        s.set(2, 1, 12);
        s.set(2, 2, 0);
        s.set(2, 3, 1);
        s.set(2, 4, 64);
        s.set(2, 5, -64);
        s.select(2, 0, 0, 0, 2, 1);
        s.mask(2, 1);
        s.flat(2);
        Check.duePixels("MUL(MUL(128, 128), 223)", s, 2, 0x38C86432, 0x38C86432);
        int[] due = {0, -1, 3, 255, 0, 0, 1, 0, 0, 0, 0, 0};
        for (int what = 0; what < due.length; what++) {
            Check.due("about(2, " + what + ")", s.about(2, what), due[what]);
        }
        Check.due("no MASK", s.masked(2, 0, 0), -1);
        s.select(0, 0, 0, 0, 0, 0);
        s.front(0x00123456);
        s.fill(0, 2);
        s.flat(0);
        Check.duePixels("what isn't there is 0", s, 0, 0, 0);
        s.front(0xFF123456);
        s.fill(0, 2);
        s.set(0, 4, 1);
        s.flat(0);
        Check.duePixels("what is shifted out is gone", s, 0, 0, 0xFF123456);
        Check.due("no shift any more", s.about(0, 7), 0);
        s.set(3, 0, 0);
        s.flat(3);
        Check.due("opacity 0 counted, then 255", s.about(3, 3), 255);
    }

    private static void merge() {
        for (int lower = 0; lower < 6; lower++) {
            for (int upper = 0; upper < 6; upper++) {
                PictureStudio s = Check.studio(1, 1);
                s.layer(lower, -1, 0);
                s.layer(upper, -1, 1);
                String what = "KIND " + upper + " with " + lower;
                if (lower >= 4 || upper >= 4) {
                    Check.refused(what, () -> s.merge(1));
                } else {
                    Check.taken(what, () -> s.merge(1));
                    Check.due("PIXELS", s.about(0, 0), 0);
                    Check.due("one is left", s.count(2), 1);
                    Check.missing("the upper one", () -> s.about(1, 0));
                }
                Check.refused("none below", () -> s.merge(0));
            }
        }
        PictureStudio s = Check.studio(1, 1);
        s.layer(2, -1, 0);
        s.layer(1, -1, 1);
        s.layer(2, 1, 0);
        Check.refused("none below in its own PARENT", () -> s.merge(2));
        Check.missing("LAYER 3", () -> s.merge(3));
        Check.missing("LAYER -1", () -> s.merge(-1));
        s.colours(0, 0xFFFFFFFF, 0);
        s.colours(2, 0xFF102030, 0);
        s.set(0, 0, 0);
        s.set(1, 2, 0);
        s.merge(1);
        Check.duePixels("one that isn't shown counts as shown", s, 0, 0xFF102030);
        Check.due("all IN the upper one go", s.count(2), 1);
    }

    private static void about() {
        PictureStudio s = Check.studio(1, 1);
        for (int kind = 0; kind < 6; kind++) {
            s.layer(kind, -1, kind);
        }
        s.ramp(3, 1, 2, 3, 4);
        for (int kind = 0; kind < 6; kind++) {
            for (int what = 12; what < 16; what++) {
                Check.due("about(" + kind + ", " + what + ")", s.about(kind, what), kind == 3 ? what - 11 : 0);
            }
        }
        Check.ends("what", 0, 15, v -> s.about(3, v));
        Check.missing("LAYER 6", () -> s.about(6, 0));
        Check.missing("LAYER -1", () -> s.about(-1, 15));
        s.colours(2, 9, 9);
        s.flat(2);
        s.flat(3);
        for (int what = 10; what < 16; what++) {
            Check.due("a FILL that became PIXELS", s.about(2, what), 0);
            Check.due("a RAMP that became PIXELS", s.about(3, what), 0);
        }
    }

    // ---- HISTORY

    private static void edits() {
        PictureStudio s = Check.canvas(1, 1);
        s.reselect(0, 0);
        s.mask(0, 0);
        s.set(0, 0, 255);
        s.move(0, -1, 0);
        s.fill(0, 0);
        s.point(200, 200, 255);
        s.stroke(0, 0);
        s.filter(0, 9, 0);
        s.path(0, 0, 0);
        s.text(0, 0, 0);
        s.convert(0, 0, 0);
        s.few(0, 2, false);
        s.turn(0, 0);
        s.scale(0, 1, 1, false);
        s.flat(0);
        Check.due("each was one", s.count(3), 14);
        Check.due("nothing was changed", s.hash(), 0);
        s.select(0, 0, 0, 0, 0, 0);
        s.reselect(0, 0);
        s.front(1);
        s.brush(1, 1, 2, 1, 1);
        s.source(1, 1);
        s.point(1, 1, 1);
        s.curve(0, 0, 1, 1);
        s.kernel(0, 1);
        s.profile(0, 0, 1);
        s.develop(0, 1);
        s.step(0, 0, 1, 1);
        s.glyph(0, 0, 1);
        s.made(0);
        s.see(0, 0);
        Check.due("these are none", s.count(3), 14);
    }

    /** PIXELS, a GROUP with a RAMP, a FILL, a CURVED and a LIVE one, and an EDIT that is done, undone and done again. */
    private static void dueUndone(String what, Consumer<PictureStudio> edit) {
        PictureStudio s = Check.canvas(2, 2);
        Check.paint(s, 0, 0x80102030, 0xFF405060, 0x01FFFFFF);
        s.layer(1, -1, 1);
        s.layer(3, 1, 0);
        s.colours(2, 0x40FF0000, 0xFF00FF00);
        s.layer(2, -1, 2);
        s.colours(3, 0x7F123456, 0);
        s.layer(5, -1, 3);
        s.mask(0, 3);
        s.select(1, 0, 0, 0, 2, 1);
        s.point(3, 3, 255);
        String before = Check.layers(s) + s.hash();
        edit.accept(s);
        String behind = Check.layers(s) + s.hash();
        int many = s.count(3);
        Check.due(what + " changes something", before.equals(behind) ? 1 : 0, 0);
        Check.due(what + " undone", s.undo(), many - 1);
        Check.dueText(what + " undone", Check.layers(s) + s.hash(), before);
        Check.due(what + " again", s.redo(), many);
        Check.dueText(what + " again", Check.layers(s) + s.hash(), behind);
    }

    private static void undoEach() {
        dueUndone("layer", s -> s.layer(2, 1, 1));
        dueUndone("drop", s -> s.drop(1));
        dueUndone("move", s -> s.move(3, 1, 0));
        for (int what = 0; what < 6; what++) {
            int k = what;
            dueUndone("set " + what, s -> s.set(0, k, k == 2 ? 0 : 1));
        }
        for (int how = 0; how < 3; how++) {
            int k = how;
            dueUndone("mask " + how, s -> s.mask(0, k));
        }
        dueUndone("colours", s -> s.colours(2, 1, 2));
        dueUndone("ramp", s -> s.ramp(2, 0, 0, 2, 2));
        dueUndone("turn", s -> s.turn(0, 2));
        dueUndone("scale", s -> s.scale(0, 2, 1, true));
        dueUndone("flat", s -> s.flat(1));
        dueUndone("fill", s -> s.fill(0, 2));
        dueUndone("merge", s -> s.merge(1));
        dueUndone("stroke", s -> s.stroke(0, 1));
        dueUndone("filter", s -> s.filter(0, 8, 0));
        dueUndone("path", s -> {
            s.step(0, 0, 0, 0);
            s.step(0, 1, 32, 0);
            s.step(0, 1, 0, 32);
            s.path(0, 0, 0);
        });
        dueUndone("text", s -> {
            s.step(0, 0, 0, 0);
            s.step(0, 1, 32, 0);
            s.step(0, 1, 0, 32);
            s.glyph(0, 0, 0);
            Check.feedBytes(s, (byte) 0);
            s.text(0, 0, 0);
        });
        dueUndone("convert", s -> {
            s.profile(1, 0, 500);
            s.convert(0, 0, 1);
        });
        dueUndone("few", s -> s.few(0, 2, true));
        dueUndone("raw", s -> {
            Check.feedBytes(s, new byte[8]);
            s.raw();
        });
        dueUndone("png", s -> Check.picture(s, 1, 2, 3, -4));
    }

    private static void oldestGo() {
        PictureStudio s = Check.studio(1, 1);
        s.layer(2, -1, 0);
        for (int i = 1; i <= 23; i++) {
            s.set(0, 0, i);
        }
        Check.due("24 can be undone", s.count(3), 24);
        for (int i = 23; i >= 0; i--) {
            Check.due("undo", s.undo(), i);
        }
        Check.due("up to the first", s.count(2), 0);
        Check.refused("no 25th", () -> s.undo());
        for (int i = 1; i <= 24; i++) {
            Check.due("redo", s.redo(), i);
        }
        Check.refused("no 25th to be done again", () -> s.redo());
        s.set(0, 0, 24);
        Check.due("24 still", s.count(3), 24);
        s.set(0, 0, 25);
        for (int i = 23; i >= 0; i--) {
            s.undo();
        }
        Check.refused("the two oldest are gone", () -> s.undo());
        Check.due("so the LAYER is there", s.count(2), 1);
        Check.due("as the second EDIT left it", s.about(0, 3), 1);
        Check.due("24 can be done again", s.count(4), 24);
        for (int i = 1; i <= 24; i++) {
            s.redo();
        }
        Check.due("as the last one left it", s.about(0, 3), 25);
    }

    private static void newEditDrops() {
        PictureStudio s = Check.studio(1, 1);
        s.layer(2, -1, 0);
        s.set(0, 0, 1);
        s.set(0, 0, 2);
        s.undo();
        s.undo();
        Check.due("two to be done again", s.count(4), 2);
        Check.bad("a bad one", () -> s.set(0, 0, 256));
        s.select(1, 0, 0, 0, 0, 0);
        s.see(0, 0);
        Check.due("what is no EDIT leaves them", s.count(4), 2);
        s.redo();
        Check.due("one to be done again", s.count(4), 1);
        s.set(0, 0, 1);
        Check.due("none, though nothing was changed", s.count(4), 0);
        Check.refused("redo", () -> s.redo());
        Check.due("three can be undone", s.count(3), 3);
        s.undo();
        s.undo();
        s.undo();
        Check.due("all undone", s.count(2), 0);
        s.layer(1, -1, 0);
        Check.due("a new first one", s.count(3), 1);
        Check.due("drops all", s.count(4), 0);
    }

    private static void settingsStay() {
        PictureStudio s = Check.canvas(2, 1);
        s.layer(4, -1, 1);
        s.set(0, 0, 255);
        s.select(1, 0, 0, 0, 1, 1);
        s.front(0xFF0000FF);
        s.brush(1, 255, 2, 255, 255);
        s.source(1, 0);
        s.point(2, 2, 255);
        s.curve(0, 3, 0, 9);
        s.kernel(10, 5);
        s.profile(0, 0, 0);
        s.develop(1, 0);
        Check.box(s, 0, 0, 0, 16, 16);
        s.glyph(7, 0, 0);
        s.feed(7, 7, 7, 7, 7);
        s.undo();
        Check.due("INPUT", s.count(8), 20);
        Check.due("POINTS", s.count(7), 1);
        s.redo();
        Check.due("SELECTION", s.selected(1, 0), 0);
        Check.due("FRONT, BRUSH, POINTS", s.stroke(0, 0), 1);
        Check.dueColour("FRONT, CURVE 0", s.see(0, 0), 0xFF090909);
        s.undo();
        Check.due("POINTS that were taken stay away", s.count(7), 0);
        s.end(4);
        Check.due("PATH, GLYPH", s.text(0, 0, 0), 1);
        s.undo();
        s.fill(0, 0);
        s.filter(0, 10, 0);
        Check.dueColour("KERNEL", s.pixel(0, 0, 0), 0xFF0505FF);
        s.undo();
        Check.refused("PROFILE", () -> s.convert(0, 1, 0));
        Check.feedBytes(s, new byte[] {15, 15, 0, 0});
        s.raw();
        Check.dueColour("raw's gain", s.pixel(2, 0, 0), 0xFF000000);
        s.undo();
        s.select(0, 0, 0, 0, 0, 0);
        s.point(6, 2, 255);
        Check.due("cx, cy", s.stroke(0, 2), 0);
        s.made(0);
        long out = s.octets(-1);
        s.undo();
        Check.due("OUT", s.octets(-1), out);
    }

    private static void numbersAgain() {
        PictureStudio s = Check.studio(1, 1);
        for (int i = 0; i < 30; i++) {
            s.layer(1, -1, 0);
        }
        Check.full("none is left", () -> s.layer(1, -1, 0));
        s.undo();
        s.undo();
        Check.due("28 is given again", s.layer(2, -1, 0), 28);
        Check.feedBytes(s, new byte[2]);
        Check.due("29 for a frame", s.raw(), 29);
        s.undo();
        Check.due("29 for a PNG", Check.picture(s, 5), 29);
        s.undo();
        s.redo();
        Check.full("done again it is taken", () -> s.layer(1, -1, 0));
        s.drop(29);
        Check.full("dropped it stays taken", () -> s.layer(1, -1, 0));
        s.undo();
        s.undo();
        Check.due("undone it is given again", s.layer(5, -1, 0), 29);
    }

    private static void undo() {
        PictureStudio s = Check.studio(1, 1);
        Check.refused("none", () -> s.undo());
        s.layer(1, -1, 0);
        s.layer(1, -1, 0);
        Check.due("one", s.undo(), 1);
        Check.due("none", s.undo(), 0);
        Check.refused("none", () -> s.undo());
        Check.due("two to be done again", s.count(4), 2);
    }

    private static void redo() {
        PictureStudio s = Check.studio(1, 1);
        Check.refused("none", () -> s.redo());
        s.layer(1, -1, 0);
        Check.refused("none undone", () -> s.redo());
        s.undo();
        Check.due("one", s.redo(), 1);
        Check.refused("none undone", () -> s.redo());
        Check.due("it is there", s.count(2), 1);
    }

    private static void count() {
        PictureStudio s = Check.studio(24, 1);
        s.see(0, 0);
        s.see(8, 0);
        s.see(0, 0);
        s.open(1, 24);
        Check.due("open leaves them", s.count(5), 2);
        Check.due("none is KEPT", s.count(6), 0);
        s.see(0, 23);
        Check.due("a third one", s.count(5), 3);
        int[] others = {-1, 10, Integer.MIN_VALUE, Integer.MAX_VALUE};
        for (int what : others) {
            Check.due("count(" + what + ")", s.count(what), -1);
        }
        for (int i = 0; i < 30; i++) {
            s.layer(5, -1, 0);
            s.colours(i, 5, 8);
        }
        Check.due("thirty LAYERS", s.count(2), 30);
        Check.due("thirty REACHES of 7", s.count(9), 210);
        s.set(0, 2, 0);
        Check.due("shown or not", s.count(9), 210);
        s.drop(29);
        Check.due("those there are", s.count(9), 203);
    }
}
