import java.util.NoSuchElementException;

/** Boundary cases of GENERAL: numbers and their ends, INPUT, which exception comes first, and that it changes nothing. */
public final class EdgesGeneralTest {
    private static final Class<?> BAD = IllegalArgumentException.class;
    private static final Class<?> MISSING = NoSuchElementException.class;
    private static final Class<?> REFUSED = IllegalStateException.class;
    private static final Class<?> FULL = IndexOutOfBoundsException.class;

    public static void main(String[] args) {
        Check.sentence("Numbers are ints that wrap; / cuts towards 0, >> rounds down.", EdgesGeneralTest::numbers);
        Check.sentence("CLIP(v): brought to 0 .. 255.", EdgesGeneralTest::clip);
        Check.sentence("MUL(a, b) = (a b + 127) / 255.", EdgesGeneralTest::mul);
        Check.sentence("MIX(a, b, t) = (a (255 - t) + b t + 127) / 255.", EdgesGeneralTest::mix);
        Check.sentence("ROOT(n): the greatest whole number whose square isn't above n.", EdgesGeneralTest::root);
        Check.sentence("COLOUR: samples R, G, B, A of 0 .. 255 (A 0: not there, 255 whole); as an int A 2^24 + R 2^16 + G 2^8 + B.",
            EdgesGeneralTest::colour);
        Check.sentence("Y of a COLOUR: (77 R + 151 G + 28 B) >> 8.", EdgesGeneralTest::grey);
        Check.sentence("INPUT: bytes gathered by feed and end, at most 8,000;", EdgesGeneralTest::inputIsFull);
        Check.sentence("\"[INPUT]\" calls empty it, whatever happens.", EdgesGeneralTest::inputIsEmptied);
        Check.sentence("OUT: bytes a call made, none at first.", EdgesGeneralTest::out);
        Check.sentence("(both of the latest [INPUT] call; 0, 0 if it had none)", EdgesGeneralTest::faults);
        Check.sentence("Of several: bad, missing, REFUSED, FULL, the FAULT.", EdgesGeneralTest::whichComesFirst);
        Check.sentence("(A range that depends on a thing that isn't there isn't looked at.)", EdgesGeneralTest::rangesOfNothing);
        Check.sentence("A call that throws changes nothing else.", EdgesGeneralTest::badChangesNothing);
        Check.sentence("A call that throws changes nothing else.", EdgesGeneralTest::missingChangesNothing);
        Check.sentence("A call that throws changes nothing else.", EdgesGeneralTest::refusedChangesNothing);
        Check.sentence("A call that throws changes nothing else.", EdgesGeneralTest::fullChangesNothing);
        Check.sentence("A call that throws changes nothing else.", EdgesGeneralTest::faultChangesNothing);
        Check.sentence("A call that throws changes nothing else.", EdgesGeneralTest::settingsStay);
        Check.done("EdgesGeneralTest");
    }

    // ---- Numbers

    private static void numbers() {
        PictureStudio s = Check.studio(24, 24);
        s.layer(2, -1, 0);
        s.colours(0, 0x7F123456, 0);
        int due = 0;
        for (int i = 0; i < 576; i++) {
            due = 31 * due + 0x7F123456;
        }
        Check.due("a hash that wraps", s.hash(), due);
        PictureStudio c = Check.studio(1, 1);
        c.layer(2, -1, 0);
        c.colours(0, 0xFF010000, 0);
        c.layer(4, -1, 1);
        c.curve(0, 0, 0, 10);
        c.curve(0, 0, 3, 0);
        Check.dueColour("10 + -10 1 / 3 is 10 - 3", c.see(0, 0), 0xFF070000);
        PictureStudio f = Check.canvas(1, 1);
        Check.dot(f, 0, 0, 0, 0xFF000200);
        f.filter(0, 13, 1);
        Check.dueColour("1 + (-1 1 >> 6) is 0", f.pixel(0, 0, 0), 0xFF000100);
    }

    private static void clip() {
        int[][] dues = {{-1, 0xFF000001}, {-2, 0xFF000000}, {253, 0xFFFEFFFF}, {252, 0xFFFDFEFF}, {-255, 0xFF000000}};
        for (int[] due : dues) {
            PictureStudio s = Check.canvas(1, 1);
            Check.dot(s, 0, 0, 0, due[0] < 0 ? 0xFF000102 : 0xFF010203);
            s.kernel(10, due[0]);
            s.filter(0, 10, 0);
            Check.dueColour("plus " + due[0], s.pixel(0, 0, 0), due[1]);
        }
    }

    private static void mul() {
        int[][] dues = {{1, 127, 0}, {1, 128, 1}, {255, 255, 255}, {255, 254, 254}, {254, 254, 253}, {16, 8, 1}, {127, 1, 0},
            {2, 64, 1}, {2, 63, 0}, {0, 255, 0}, {3, 212, 2}, {3, 213, 3}, {3, 42, 0}, {3, 43, 1}};
        PictureStudio s = Check.studio(1, 1);
        s.layer(2, -1, 0);
        for (int[] due : dues) {
            s.colours(0, due[0] << 24 | 0x102030, 0);
            s.set(0, 0, due[1]);
            Check.due("MUL(" + due[0] + ", " + due[1] + ")", s.see(0, 0) >>> 24, due[2]);
        }
    }

    /** A SELECTION of 128 on one pixel, or of 127. */
    private static void selectHalf(PictureStudio s, boolean turned) {
        s.step(7, 3, 0, 0);
        Check.box(s, 7, 0, 0, 8, 16);
        s.select(6, 0, 7, 0, 0, 0);
        if (turned) {
            s.reselect(0, 0);
        }
    }

    private static void mix() {
        int[][] dues = {{0xFF000000, 0xFF0102FF, 0xFF010180}, {0xFF0102FF, 0xFF000000, 0xFF00017F}};
        for (int[] due : dues) {
            PictureStudio s = Check.canvas(1, 1);
            Check.dot(s, 0, 0, 0, due[0]);
            selectHalf(s, false);
            Check.due("128", s.selected(0, 0), 128);
            s.front(due[1]);
            s.fill(0, 2);
            Check.dueColour("MIX by 128", s.pixel(0, 0, 0), due[2]);
            PictureStudio t = Check.canvas(1, 1);
            Check.dot(t, 0, 0, 0, due[1]);
            selectHalf(t, true);
            Check.due("127", t.selected(0, 0), 127);
            t.front(due[0]);
            t.fill(0, 2);
            Check.dueColour("MIX by 127, the other way round", t.pixel(0, 0, 0), due[2]);
        }
        PictureStudio l = Check.studio(1, 1);
        l.layer(2, -1, 0);
        l.layer(5, -1, 1);
        for (int t = 0; t < 256; t += 15) {
            l.set(1, 0, t);
            l.colours(0, 0x80004080, 0);
            Check.dueColour("MIX by " + t, l.see(0, 0), Told.mixed(0x80004080, 0x80FFBF7F, t));
        }
    }

    /** A hard BRUSH of five quarters, R 20, at a place beside the only pixel. */
    private static int dabbed(int ax, int ay) {
        PictureStudio s = Check.canvas(1, 1);
        s.brush(5, 255, 2, 255, 255);
        s.point(2 - ax, 2 - ay, 255);
        return s.stroke(0, 0);
    }

    private static void root() {
        Check.due("ROOT(16 25) is 20", dabbed(3, 4), 1);
        Check.due("ROOT(16 26) is 20", dabbed(1, 5), 1);
        Check.due("ROOT(16 26) is 20", dabbed(-5, -1), 1);
        Check.due("ROOT(16 29) is 21", dabbed(2, 5), 0);
        Check.due("ROOT(16 0) is 0", dabbed(0, 0), 1);
    }

    private static void colour() {
        PictureStudio s = Check.studio(2, 1);
        s.layer(2, -1, 0);
        s.colours(0, 255 * 65536 + 2 * 256 + 3, 0);
        Check.due("A 0: not there", s.see(0, 0), 0);
        s.colours(0, (255 << 24) + 65536 + 2 * 256 + 3, 0);
        Check.due("A 255: whole", s.see(0, 0), -16711165);
        int l = s.layer(0, -1, 1);
        s.front(0x01020304);
        s.fill(l, 2);
        s.made(l);
        // row 0: filter 1, then R G B A of the first pixel
        byte[] file = PngFile.out(s);
        Check.due("R G B A of FRONT", Check.hash(rows(file)), Check.hash(1, 2, 3, 4, 1, 0, 0, 0, 0));
        s.filter(l, 8, 0);
        Check.dueColour("R, G, B turned", s.pixel(l, 0, 0), 0x01FDFCFB);
    }

    private static int[] rows(byte[] file) {
        java.util.zip.Inflater i = new java.util.zip.Inflater();
        i.setInput(java.util.Arrays.copyOfRange(file, 41, file.length - 16));
        byte[] rows = new byte[100];
        try {
            int[] all = new int[i.inflate(rows)];
            for (int k = 0; k < all.length; k++) {
                all[k] = rows[k] & 255;
            }
            return all;
        } catch (java.util.zip.DataFormatException e) {
            return new int[0];
        }
    }

    private static void grey() {
        int[] colours = {0xFF000000, 0xFFFFFFFF, 0xFF0000FF, 0xFF00FF00, 0xFFFF0000, 0xFF000009, 0xFF00000A, 0xFF000100,
            0xFF000200, 0xFF030000, 0xFF040000, 0xFF7F8081, 0x01102030, 0xFF0000E4, 0xFF0000E5};
        int[] due = {0, 255, 27, 150, 76, 0, 1, 0, 1, 0, 1, 127, 28, 24, 25};
        for (int i = 0; i < colours.length; i++) {
            PictureStudio s = Check.canvas(1, 1);
            Check.dot(s, 0, 0, 0, colours[i]);
            s.filter(0, 11, 0);
            Check.due("Y of " + Integer.toHexString(colours[i]), s.pixel(0, 0, 0) & 255, due[i]);
        }
    }

    // ---- INPUT and OUT

    private static void inputIsFull() {
        PictureStudio s = Check.studio(1, 1);
        for (int i = 1; i < 400; i++) {
            s.feed(0, 0, 0, 0, 0);
        }
        Check.due("399 times 20", s.count(8), 7980);
        Check.due("the last that is taken", s.feed(1, 2, 3, 4, 5), 8000);
        Check.full("one more", () -> s.feed(0, 0, 0, 0, 0));
        Check.due("as it was", s.count(8), 8000);
        s.end(7981);
        Check.full("beyond by one byte", () -> s.feed(0, 0, 0, 0, 0));
        Check.due("none of its bytes came", s.count(8), 7981);
        s.end(7980);
        Check.due("up to the last byte", s.feed(0, 0, 0, 0, 0), 8000);
    }

    private static void inputIsEmptied() {
        PictureStudio s = Check.canvas(2, 2);
        s.layer(2, -1, 1);
        Check.Call[] calls = {() -> s.text(0, 0, 0), () -> s.text(0, 2001, 0), () -> s.text(9, 0, 0), () -> s.text(1, 0, 0),
            () -> s.raw(), () -> s.png()};
        for (int i = 0; i < calls.length; i++) {
            s.feed(1, 2, 3, 4, 5);
            run(calls[i]);
            Check.due("INPUT behind call " + i, s.count(8), 0);
        }
        s.feed(0, 0, 0, 0, 0);
        s.end(8);
        s.raw();
        Check.due("INPUT behind a right frame", s.count(8), 0);
        Check.picture(s, 1, 2, 3, 4);
        Check.due("INPUT behind a right PNG", s.count(8), 0);
        while (s.count(2) < 30) {
            s.layer(2, -1, 0);
        }
        s.feed(0, 0, 0, 0, 0);
        Check.full("raw when it is FULL", () -> s.raw());
        Check.due("INPUT then", s.count(8), 0);
        s.feed(0, 0, 0, 0, 0);
        Check.full("png when it is FULL", () -> s.png());
        Check.due("INPUT then", s.count(8), 0);
        s.feed(0, 0, 0, 0, 0);
        Check.missing("another call that throws", () -> s.drop(30));
        s.fill(0, 0);
        Check.due("leaves INPUT", s.count(8), 20);
    }

    private static void run(Check.Call call) {
        try {
            call.run();
        } catch (IllegalArgumentException | NoSuchElementException | UnsupportedOperationException e) {
            return;
        }
    }

    private static void out() {
        PictureStudio s = Check.canvas(2, 2);
        Check.due("none at first", s.octets(-1), 0);
        Check.due("none at first", s.octets(0), 0);
        Check.missing("made of nothing", () -> s.made(9));
        Check.due("none still", s.octets(-1), 0);
        int many = s.made(0);
        s.feed(0, 0, 0, 0, 0);
        s.open(24, 24);
        Check.due("other calls leave it", s.octets(-1), many);
    }

    private static void faults() {
        PictureStudio s = Check.canvas(1, 1);
        Check.due("no [INPUT] call yet", s.fault(0), 0);
        Check.due("no [INPUT] call yet", s.fault(1), 0);
        s.feed(0, 0, 0, 0, 0);
        Check.faulty("a frame too long", s, () -> s.raw(), 1, 20);
        s.feed(0, 0, 0, 0, 0);
        s.undo();
        s.redo();
        Check.due("other calls leave it", s.fault(1), 20);
        s.end(2);
        s.raw();
        Check.due("a right frame has none", s.fault(0), 0);
        Check.due("a right frame has none", s.fault(1), 0);
        Check.Call[] calls = {() -> s.text(0, 0, 0), () -> s.text(0, 0, 2001), () -> s.text(9, 0, 0), () -> Check.picture(s, 1)};
        for (int i = 0; i < calls.length; i++) {
            s.feed(0, 0, 0, 0, 0);
            Check.faulty("no PNG", s, () -> s.png(), 1, 0);
            s.feed(0, 0, 0, 0, 0);
            Check.faulty("a frame too long", s, () -> s.raw(), 1, 20);
            run(calls[i]);
            Check.due("call " + i + " had none", s.fault(0), 0);
            Check.due("call " + i + " had none", s.fault(1), 0);
        }
        Check.faulty("a frame of nothing", s, () -> s.raw(), 1, 0);
        while (s.count(2) < 30) {
            s.layer(2, -1, 0);
        }
        Check.full("FULL", () -> s.raw());
        Check.due("FULL is no FAULT", s.fault(0), 0);
    }

    // ---- Exceptions

    private static void whichComesFirst() {
        PictureStudio s = Check.canvas(3, 2);
        s.layer(1, -1, 1);
        s.layer(1, 1, 0);
        s.layer(2, -1, 2);
        for (int i = 0; i < 9; i++) {
            s.profile(1, i, 0);
        }
        Check.bad("layer: KIND, PARENT", () -> s.layer(6, 9, 0));
        Check.bad("move: place, into itself", () -> s.move(1, 1, 9));
        Check.bad("move: place, into one IN it", () -> s.move(1, 2, 9));
        Check.missing("move: LAYER and PARENT", () -> s.move(9, 9, 0));
        Check.bad("set: what, LAYER", () -> s.set(9, 6, 0));
        Check.bad("set: value, LAYER", () -> s.set(9, 0, 256));
        Check.bad("mask: how, LAYER", () -> s.mask(9, 4));
        Check.missing("mask: LAYER, none to be turned", () -> s.mask(9, 2));
        Check.bad("ramp: a number, LAYER", () -> s.ramp(9, 101, 0, 0, 0));
        Check.bad("turn: how, LAYER", () -> s.turn(9, 3));
        Check.missing("turn: LAYER, W isn't H", () -> s.turn(9, 2));
        Check.bad("turn: KIND, W isn't H", () -> s.turn(3, 2));
        Check.bad("scale: n, LAYER", () -> s.scale(9, 0, 1, true));
        Check.missing("merge: LAYER", () -> s.merge(9));
        Check.bad("fill: how, LAYER", () -> s.fill(9, 3));
        Check.bad("stroke: how, LAYER, no POINTS", () -> s.stroke(9, 4));
        Check.missing("stroke: LAYER, no POINTS", () -> s.stroke(9, 0));
        Check.bad("stroke: KIND, no POINTS", () -> s.stroke(3, 0));
        Check.bad("filter: FILTER, LAYER", () -> s.filter(9, 14, 0));
        Check.bad("filter: amount, LAYER", () -> s.filter(9, 0, 5));
        Check.bad("path: PATH, LAYER", () -> s.path(9, 8, 0));
        Check.bad("path: rule, LAYER", () -> s.path(9, 0, 2));
        Check.bad("text: x, LAYER", () -> s.text(9, 2001, 0));
        Check.bad("text: y, LAYER", () -> s.text(9, 0, -2001));
        Check.bad("convert: p, LAYER", () -> s.convert(9, 4, 1));
        Check.bad("convert: q, determinant 0", () -> s.convert(0, -1, 1));
        Check.missing("convert: LAYER, determinant 0", () -> s.convert(9, 0, 1));
        Check.bad("convert: KIND, determinant 0", () -> s.convert(3, 0, 1));
        Check.bad("few: n, LAYER", () -> s.few(9, 17, true));
        Check.bad("select: way, LAYER", () -> s.select(5, 4, 9, 0, 0, 0));
        Check.bad("select: d, LAYER", () -> s.select(5, 0, 9, 0, 0, 101));
        Check.bad("zoomed: z, place", () -> s.zoomed(4, 9, 9));
        Check.bad("about: what, LAYER", () -> s.about(9, 16));
        Check.bad("step: x, a control first", () -> s.step(0, 2, 2001, 0));
        fillSteps(s);
        Check.bad("step: y, FULL", () -> s.step(0, 1, 0, -2001));
        for (int i = 0; i < 20; i++) {
            s.point(0, 0, 0);
        }
        Check.bad("point: pressure, FULL", () -> s.point(0, 0, 256));
        for (int i = 0; i < 8; i++) {
            s.curve(0, 0, i, 0);
        }
        Check.bad("curve: y, FULL", () -> s.curve(0, 0, 9, 256));
        while (s.count(2) < 30) {
            s.layer(2, -1, 0);
        }
        Check.bad("layer: KIND, FULL", () -> s.layer(6, -1, 0));
        Check.bad("layer: place, FULL", () -> s.layer(0, -1, 99));
        Check.missing("layer: PARENT, FULL", () -> s.layer(0, 0, 0));
        Check.full("raw: FULL, FAULT", () -> s.raw());
        Check.full("png: FULL, FAULT", () -> s.png());
    }

    private static void fillSteps(PictureStudio s) {
        for (int i = 0; i < 39; i++) {
            s.step(0, 1, i, i);
        }
        Check.refused("step: a control as the 40th", () -> s.step(0, 2, 0, 0));
        s.step(0, 1, 0, 0);
        Check.full("step: the 41st", () -> s.step(0, 1, 0, 0));
    }

    private static void rangesOfNothing() {
        PictureStudio s = Check.canvas(2, 2);
        Check.missing("places of a PARENT that isn't there", () -> s.layer(0, 7, -1));
        Check.missing("places of a PARENT that isn't there", () -> s.layer(0, 7, 99));
        Check.missing("places of PIXELS", () -> s.layer(0, 0, 99));
        Check.missing("places of a PARENT that isn't there", () -> s.move(0, 7, 99));
        Check.missing("places without a LAYER that isn't there", () -> s.move(7, -1, 99));
        Check.missing("colours of a LAYER that isn't there", () -> s.colours(7, -1, -1));
        Check.missing("made of a LAYER that isn't there", () -> s.made(7));
    }

    /** A studio of which all that can be asked tells something. */
    private static PictureStudio busy() {
        PictureStudio s = Check.canvas(2, 2);
        Check.dot(s, 0, 1, 0, 0x80102030);
        s.layer(1, -1, 1);
        s.layer(3, 1, 0);
        s.colours(2, 0x40FF0000, 0xFF00FF00);
        s.ramp(2, 0, 0, 1, 1);
        s.select(2, 0, 0, 0, 2, 1);
        s.mask(0, 1);
        s.layer(4, -1, 2);
        s.layer(5, -1, 3);
        s.made(-1);
        s.set(2, 1, 9);
        s.undo();
        s.feed(1, 2, 3, 4, 5);
        s.point(3, 3, 200);
        s.see(1, 1);
        return s;
    }

    private static void dueUnchanged(String what, Class<?> thrown, java.util.function.Consumer<PictureStudio> call) {
        PictureStudio s = busy();
        Check.unchanged(what, s, thrown, () -> call.accept(s));
        Check.due(what + ": what was undone is done again", s.redo(), s.count(3));
        Check.due(what + ": it was the mode", s.about(2, 4), 9);
    }

    private static void badChangesNothing() {
        dueUnchanged("end", BAD, s -> s.end(21));
        dueUnchanged("open", BAD, s -> s.open(2, 25));
        dueUnchanged("layer", BAD, s -> s.layer(0, -1, 5));
        dueUnchanged("move", BAD, s -> s.move(0, 1, 2));
        dueUnchanged("set", BAD, s -> s.set(0, 0, 256));
        dueUnchanged("mask", BAD, s -> s.mask(0, 4));
        dueUnchanged("colours", BAD, s -> s.colours(0, 0, 0));
        dueUnchanged("ramp", BAD, s -> s.ramp(2, 1, 1, 1, 101));
        dueUnchanged("turn", BAD, s -> s.turn(0, 3));
        dueUnchanged("scale", BAD, s -> s.scale(0, 2, 17, true));
        dueUnchanged("fill", BAD, s -> s.fill(0, 3));
        dueUnchanged("stroke", BAD, s -> s.stroke(0, 4));
        dueUnchanged("stroke on a GROUP", BAD, s -> s.stroke(1, 0));
        dueUnchanged("filter", BAD, s -> s.filter(0, 0, 5));
        dueUnchanged("path", BAD, s -> s.path(0, 0, 2));
        dueUnchanged("convert", BAD, s -> s.convert(0, 0, 4));
        dueUnchanged("few", BAD, s -> s.few(0, 17, false));
        dueUnchanged("select", BAD, s -> s.select(1, 0, 0, 0, 1, 101));
        dueUnchanged("select from a place that isn't there", BAD, s -> s.select(3, 0, 2, 0, 1, 0));
        dueUnchanged("reselect", BAD, s -> s.reselect(1, 9));
        dueUnchanged("point", BAD, s -> s.point(0, 0, 256));
        dueUnchanged("curve", BAD, s -> s.curve(0, 3, 0, 256));
        dueUnchanged("kernel", BAD, s -> s.kernel(4, 101));
        dueUnchanged("zoomed", BAD, s -> s.zoomed(0, 0, 0));
        dueUnchanged("about", BAD, s -> s.about(0, 16));
        dueUnchanged("octets", BAD, s -> s.octets(8001));
    }

    private static void missingChangesNothing() {
        dueUnchanged("layer", MISSING, s -> s.layer(0, 0, 0));
        dueUnchanged("drop", MISSING, s -> s.drop(5));
        dueUnchanged("move", MISSING, s -> s.move(0, 2, 0));
        dueUnchanged("set", MISSING, s -> s.set(5, 0, 0));
        dueUnchanged("mask", MISSING, s -> s.mask(5, 0));
        dueUnchanged("colours", MISSING, s -> s.colours(5, 0, 0));
        dueUnchanged("ramp", MISSING, s -> s.ramp(5, 0, 0, 0, 0));
        dueUnchanged("turn", MISSING, s -> s.turn(5, 0));
        dueUnchanged("scale", MISSING, s -> s.scale(-1, 1, 1, false));
        dueUnchanged("flat", MISSING, s -> s.flat(5));
        dueUnchanged("fill", MISSING, s -> s.fill(-1, 0));
        dueUnchanged("merge", MISSING, s -> s.merge(5));
        dueUnchanged("stroke", MISSING, s -> s.stroke(5, 0));
        dueUnchanged("filter", MISSING, s -> s.filter(5, 8, 0));
        dueUnchanged("path", MISSING, s -> s.path(5, 0, 0));
        dueUnchanged("convert", MISSING, s -> s.convert(5, 0, 0));
        dueUnchanged("few", MISSING, s -> s.few(5, 2, false));
        dueUnchanged("select", MISSING, s -> s.select(5, 0, 1, 0, 0, 0));
        dueUnchanged("selected", MISSING, s -> s.selected(2, 0));
        dueUnchanged("see", MISSING, s -> s.see(0, 2));
        dueUnchanged("zoomed", MISSING, s -> s.zoomed(1, 1, 0));
        dueUnchanged("pixel", MISSING, s -> s.pixel(1, 0, 0));
        dueUnchanged("masked", MISSING, s -> s.masked(0, 0, -1));
        dueUnchanged("about", MISSING, s -> s.about(5, 0));
        dueUnchanged("made", MISSING, s -> s.made(1));
    }

    private static void refusedChangesNothing() {
        dueUnchanged("move", REFUSED, s -> s.move(1, 1, 0));
        dueUnchanged("mask", REFUSED, s -> s.mask(2, 2));
        dueUnchanged("flat", REFUSED, s -> s.flat(3));
        dueUnchanged("merge", REFUSED, s -> s.merge(0));
        dueUnchanged("step", REFUSED, s -> s.step(0, 2, 0, 0));
        PictureStudio t = Check.canvas(2, 1);
        Check.unchanged("turn", t, REFUSED, () -> t.turn(0, 2));
        PictureStudio p = Check.canvas(2, 1);
        Check.unchanged("stroke", p, REFUSED, () -> p.stroke(0, 0));
        PictureStudio c = busy();
        c.profile(0, 0, 0);
        Check.unchanged("convert", c, REFUSED, () -> c.convert(0, 1, 0));
        PictureStudio n = Check.studio(2, 1);
        Check.unchanged("undo", n, REFUSED, () -> n.undo());
        PictureStudio r = Check.canvas(2, 1);
        Check.unchanged("redo", r, REFUSED, () -> r.redo());
    }

    private static void fullChangesNothing() {
        PictureStudio s = Check.studio(1, 1);
        for (int i = 0; i < 30; i++) {
            s.layer(1, -1, 0);
        }
        for (int i = 0; i < 29; i++) {
            s.drop(i);
        }
        Check.unchanged("layer", s, FULL, () -> s.layer(0, -1, 0));
        Check.unchanged("raw", s, FULL, () -> s.raw());
        Check.unchanged("png", s, FULL, () -> s.png());
        PictureStudio p = busy();
        while (p.count(7) < 20) {
            p.point(0, 0, 0);
        }
        Check.unchanged("point", p, FULL, () -> p.point(1, 1, 1));
        PictureStudio c = busy();
        for (int i = 0; i < 8; i++) {
            c.curve(0, 0, 2 * i, 255 - i);
        }
        c.see(0, 0);
        Check.unchanged("curve", c, FULL, () -> c.curve(0, 0, 1, 0));
        PictureStudio g = Check.studio(1, 1);
        fillSteps(g);
        Check.unchanged("step", g, FULL, () -> g.step(0, 1, 1, 1));
        PictureStudio i = Check.studio(1, 1);
        for (int k = 0; k < 400; k++) {
            i.feed(k, k, k, k, k);
        }
        Check.unchanged("feed", i, FULL, () -> i.feed(0, 0, 0, 0, 0));
    }

    /** [INPUT] calls empty INPUT and tell a FAULT; all else stays. */
    private static void faultChangesNothing() {
        dueLayersStay("raw", s -> Check.faulty("raw", s, () -> s.raw(), 1, 20));
        dueLayersStay("png", s -> Check.faulty("png", s, () -> s.png(), 1, 0));
        dueLayersStay("text", s -> Check.bad("text", () -> s.text(0, 2001, 0)));
        dueLayersStay("text", s -> Check.missing("text", () -> s.text(5, 0, 0)));
    }

    private static void dueLayersStay(String what, java.util.function.Consumer<PictureStudio> call) {
        PictureStudio s = busy();
        s.end(0);
        String before = Check.state(s);
        s.feed(0, 0, 0, 0, 0);
        call.accept(s);
        s.text(0, 0, 0);
        s.undo();
        s.see(1, 1);
        String[] told = Check.state(s).split(" ", 8);
        String[] due = before.split(" ", 8);
        Check.dueText(what + ": LAYERS, SELECTION, OUT", told[7], due[7]);
    }

    private static void settingsStay() {
        PictureStudio s = Check.canvas(5, 1);
        s.brush(1, 255, 2, 255, 255);
        Check.bad("brush", () -> s.brush(64, 255, 2, 255, 256));
        Check.bad("brush", () -> s.brush(65, 0, 64, 0, 0));
        s.point(10, 2, 255);
        Check.due("the BRUSH is as it was", s.stroke(0, 0), 1);
        s.source(1, 0);
        Check.bad("source", () -> s.source(0, 101));
        s.point(6, 2, 255);
        Check.due("cx, cy are as they were", s.stroke(0, 2), 1);
        s.profile(0, 4, 512);
        Check.bad("profile", () -> s.profile(0, 4, 4097));
        Check.dot(s, 0, 0, 0, 0xFF804020);
        s.convert(0, 0, 1);
        Check.dueColour("the PROFILE is as it was", s.pixel(0, 0, 0), 0xFF802020);
        Check.box(s, 3, 0, 0, 16, 16);
        Check.bad("step", () -> s.step(3, 1, 900, 2001));
        Check.bad("step", () -> s.step(8, 3, 0, 0));
        s.glyph(65, 3, 32);
        Check.bad("glyph", () -> s.glyph(65, -1, 801));
        Check.bad("glyph", () -> s.glyph(65, 8, 0));
        s.front(0xFF0000FF);
        Check.feedBytes(s, (byte) 65, (byte) 65);
        Check.due("PATH and GLYPH are as they were", s.text(0, 0, 0), 2);
        Check.dueColour("the second one", s.pixel(0, 2, 0), 0xFF0000FF);
        s.open(1, 1);
        s.develop(1, 128);
        Check.bad("develop", () -> s.develop(1, 1025));
        Check.feedBytes(s, (byte) 1, (byte) 0);
        s.raw();
        Check.dueColour("the gain is as it was", s.pixel(0, 0, 0), 0xFF200000);
    }
}
