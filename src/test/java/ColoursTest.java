import java.util.function.IntConsumer;

/** COLOURS: promises 22 (convert), 23 (few) and 24 (raw). */
public final class ColoursTest {
    public static void main(String[] args) {
        convertRefusals();
        convertSorts();
        convertMatrices();
        fewRefusals();
        fewBoxes();
        fewOrder();
        fewLeavesOut();
        fewDithered();
        rawFaults();
        rawFrame();
        rawDeveloped();
        Check.done("ColoursTest");
    }

    private static void wrongKinds(String what, PictureStudio s, IntConsumer call) {
        Check.bad(what + ": a FILL", () -> call.accept(1));
        Check.missing(what + ": a LAYER that isn't there", () -> call.accept(2));
        Check.due(what + ": no EDIT then", s.count(3), 2);
    }

    private static PictureStudio twoKinds(int w, int h) {
        PictureStudio s = Check.canvas(w, h);
        s.layer(2, -1, 0);
        return s;
    }

    private static void convertRefusals() {
        PictureStudio s = twoKinds(1, 1);
        for (int i = 0; i < 9; i++) {
            s.profile(3, i, i + 1);
        }
        Check.refused("determinant 0", () -> s.convert(0, 0, 3));
        Check.bad("another KIND comes ahead of REFUSED", () -> s.convert(1, 0, 3));
        wrongKinds("convert", s, l -> s.convert(l, 0, 3));
        Check.bad("p -1", () -> s.convert(0, -1, 0));
        Check.bad("p 4", () -> s.convert(0, 4, 0));
        Check.bad("q -1", () -> s.convert(0, 0, -1));
        Check.bad("q 4, ahead of missing", () -> s.convert(2, 0, 4));
        s.convert(0, 3, 0);
        Check.due("from such a PROFILE is an EDIT", s.count(3), 3);
    }

    private static void dueConverted(String what, PictureStudio s, int p, int q, int from, int to) {
        s.open(1, 1);
        s.layer(0, -1, 0);
        Check.dot(s, 0, 0, 0, from);
        s.convert(0, p, q);
        Check.duePixels(what, s, 0, to);
    }

    private static void convertSorts() {
        PictureStudio s = new PictureStudio();
        s.profile(1, 9, 1);
        s.profile(2, 9, 2);
        for (int p = 0; p < 3; p++) {
            dueConverted("to the same sort " + p, s, p, p, 0x407F80FF, 0x407F80FF);
        }
        // 4095 128 / 255 = 2055; 4095 181 181 / 65025 = 2063 is nearer than 2040 of 180
        dueConverted("straight to squares", s, 0, 1, 0x0080FF00, 0x00B5FF00);
        // 4095 128 128 / 65025 = 1031; 64: 1027 is nearer than 1043 of 65
        dueConverted("squares to straight", s, 1, 0, 0xFF8001FF, 0xFF4000FF);
        // (2055 + 3 1031) / 4 = 1287: straight 80: 1284
        dueConverted("both to straight", s, 2, 0, 0xFF800000, 0xFF500000);
        // squares of 1, 2, 3 are 0 as that of 0 is
        dueConverted("the least of the nearest", s, 1, 1, 0xFF030201, 0xFF000000);
    }

    private static void convertMatrices() {
        PictureStudio s = new PictureStudio();
        s.profile(1, 0, 0);
        s.profile(1, 2, 1024);
        s.profile(1, 6, 1024);
        s.profile(1, 8, 0);
        dueConverted("R and B change places", s, 1, 0, 0xFF102030, 0xFF302010);
        dueConverted("by the inverse, too", s, 0, 1, 0xFF102030, 0xFF302010);
        dueConverted("there and back", s, 1, 1, 0xFF102030, 0xFF102030);
        s.profile(2, 0, 512);
        s.profile(2, 4, 2048);
        s.profile(2, 8, -1024);
        dueConverted("half, twice, below 0", s, 2, 0, 0xFF804020, 0xFF408000);
        dueConverted("twice (at most 255), half, below 0", s, 0, 2, 0xFFC04020, 0xFFFF2000);
        s.profile(3, 1, 512);
        s.profile(3, 5, 256);
        s.profile(3, 6, -128);
        dueConverted("a row's sum", s, 3, 0, 0xFF404040, 0xFF605038);
        dueConverted("by cofactors", s, 0, 3, 0xFF605038, 0xFF404040);
        dueConverted("by cofactors", s, 0, 3, 0xFFC86432, 0xFF9F5246);
    }

    private static void fewRefusals() {
        PictureStudio s = twoKinds(1, 1);
        wrongKinds("few", s, l -> s.few(l, 2, false));
        Check.bad("n 1", () -> s.few(0, 1, false));
        Check.bad("n 17", () -> s.few(0, 17, true));
        Check.bad("bad comes ahead of missing", () -> s.few(2, 17, true));
        Check.due("no pixel is there: no colour", s.few(0, 2, true), 0);
        Check.due("an EDIT all the same", s.count(3), 3);
    }

    private static void dueFew(String what, int n, int many, int[] from, int... to) {
        PictureStudio s = Check.canvas(from.length, 1);
        Check.paint(s, 0, from);
        Check.due(what + ": how many", s.few(0, n, false), many);
        Check.duePixels(what, s, 0, to);
    }

    private static int[] greys(int... values) {
        int[] all = new int[values.length];
        for (int i = 0; i < all.length; i++) {
            all[i] = Check.grey(values[i]);
        }
        return all;
    }

    private static void fewBoxes() {
        dueFew("one colour", 16, 1, greys(7, 7, 7), greys(7, 7, 7));
        dueFew("two of four", 2, 2, greys(110, 0, 100, 10), greys(105, 5, 105, 5));
        dueFew("all four", 4, 4, greys(110, 0, 100, 10), greys(110, 0, 100, 10));
        dueFew("no more than there are", 16, 4, greys(110, 0, 100, 10), greys(110, 0, 100, 10));
        dueFew("three of four: of equal ones the first BOX", 3, 3, greys(110, 0, 100, 10), greys(105, 0, 105, 10));
        dueFew("the nearest, not that of its BOX (5, 6 90)", 2, 2, greys(5, 6, 90), greys(5, 5, 48));
        dueFew("the cut goes on: 5 5 5, 9", 2, 2, greys(5, 9, 5, 5), greys(5, 9, 5, 5));
        dueFew("to the end, so back: 0, 5 5 5", 2, 2, greys(5, 5, 0, 5), greys(5, 5, 0, 5));
        dueFew("back over more: 0 3, 5 5 5 5", 2, 2, greys(5, 5, 0, 5, 3, 5), greys(5, 5, 2, 5, 2, 5));
        dueFew("0 0 0 60, 61 61 255 255", 2, 2, greys(0, 0, 0, 60, 61, 61, 255, 255), greys(15, 15, 15, 15, 15, 15, 158, 158));
    }

    private static void fewOrder() {
        // G is longest: cut by G, R and B go with it
        dueFew("by the longest side", 2, 2, new int[] {0xFF640000, 0xFF0A6500, 0xFF0A6600}, 0xFF640000, 0xFF0A6600, 0xFF0A6600);
        // R and G alike: by R, of equal R by all: 0A0064, 0A6400, 6E0000
        dueFew("of equal sides R", 2, 2, new int[] {0xFF0A6400, 0xFF6E0000, 0xFF0A0064}, 0xFF0A3232, 0xFF6E0000, 0xFF0A3232);
        dueFew("G ahead of B", 2, 2, new int[] {0xFF006400, 0xFF000064}, 0xFF006400, 0xFF000064);
        // R 200 205 210 is shorter than G 0 50 0
        dueFew("the longest side, not the greatest value", 2, 2, new int[] {0xFFC80000, 0xFFCD3200, 0xFFD20000},
            0xFFCD0000, 0xFFCD3200, 0xFFCD0000);
        dueFew("B alone", 2, 2, new int[] {0xFF000001, 0xFF000009, 0xFF000003}, 0xFF000001, 0xFF000006, 0xFF000001);
        // the second BOX is the longest then, and a new one stands behind all
        dueFew("a new BOX stands behind", 3, 3, greys(0, 1, 100, 200), greys(1, 1, 100, 200));
        // of equal distances the first: 10 lies between 0 and 20
        dueFew("of equal distances the first colour", 2, 2, greys(0, 0, 10, 20, 20, 20, 30), greys(3, 3, 3, 23, 23, 23, 23));
    }

    private static void fewLeavesOut() {
        PictureStudio s = Check.canvas(4, 1);
        Check.paint(s, 0, 0x01000000, 0x00FFFFFF, 0x80646464, 0x406E6E6E);
        Check.due("pixels with A 0 don't count", s.few(0, 2, true), 2);
        Check.duePixels("A stays, A 0 stays as it is", s, 0, 0x01000000, 0x00FFFFFF, 0x80696969, 0x40696969);
        s.undo();
        s.select(1, 0, 0, 0, 1, 1);
        s.few(0, 2, false);
        Check.duePixels("a SELECTION doesn't count", s, 0, 0x01000000, 0x00FFFFFF, 0x80696969, 0x40696969);
    }

    private static void fewDithered() {
        PictureStudio s = Check.canvas(3, 2);
        Check.paint(s, 0, greys(72, 72, 72, 72, 100, 0));
        Check.due("two colours, 58 and 100", s.few(0, 2, true), 2);
        // c with errors: 72, 78, 80 (nearer to 100), 79 (as near to both), 112, 0
        Check.duePixels("errors go on", s, 0, greys(58, 58, 100, 58, 100, 58));
        s.undo();
        s.few(0, 2, false);
        Check.duePixels("without them", s, 0, greys(58, 58, 58, 58, 100, 58));
        PictureStudio q = Check.canvas(3, 3);
        Check.paint(q, 0, greys(0, 64, 255, 128, 120, 130, 70, 60, 50));
        q.few(0, 2, true);
        PictureStudio d = Check.canvas(1, 4);
        Check.paint(d, 0, greys(0, 72, 72, 100));
        // 48 and 100: e -48 gives 72 - 15, that 9 gives 72 + 2, as near to 100: the first
        d.few(0, 2, true);
        Check.duePixels("down a column", d, 0, greys(48, 48, 48, 100));
        PictureStudio c = Check.canvas(4, 3);
        Check.paint(c, 0, 0xFF10C020, 0xFF2080F0, 0x80D04060, 0xFF707070, 0x40F0E010, 0xFF30A0C0, 0xFF908010, 0x00FFFFFF,
            0xFFC0C0F0, 0xFF501030, 0xFF60F090, 0xFFE02080);
        Check.due("three colours", c.few(0, 3, true), 3);
        Check.duePixels("each channel for itself, none to pixels with A 0", c, 0, 0xFF35C57B, 0xFF384890, 0x80BB7D65,
            0xFF384890, 0x40BB7D65, 0xFF35C57B, 0xFFBB7D65, 0x00FFFFFF, 0xFFBB7D65, 0xFF384890, 0xFF35C57B, 0xFFBB7D65);
        Check.duePixels("row by row", q, 0, greys(44, 44, 141, 141, 141, 141, 44, 44, 44));
    }

    private static void rawFaults() {
        PictureStudio s = Check.studio(2, 1);
        Check.faulty("nothing", s, () -> s.raw(), 1, 0);
        Check.feedBytes(s, new byte[3]);
        Check.faulty("too short", s, () -> s.raw(), 1, 3);
        Check.feedBytes(s, new byte[5]);
        Check.faulty("too long", s, () -> s.raw(), 1, 5);
        Check.feedBytes(s, (byte) 15, (byte) 255, (byte) 16, (byte) 0);
        Check.faulty("above 4095", s, () -> s.raw(), 2, 2);
        Check.feedBytes(s, (byte) 255, (byte) 255, (byte) 16, (byte) 0);
        Check.faulty("the first of them", s, () -> s.raw(), 2, 0);
        Check.due("no EDIT", s.count(3), 0);
        Check.due("no LAYER", s.count(2), 0);
        for (int i = 0; i < 30; i++) {
            s.layer(2, -1, 0);
        }
        Check.feedBytes(s, new byte[3]);
        Check.full("FULL comes ahead of the FAULT", () -> s.raw());
        Check.due("INPUT is empty", s.count(8), 0);
        Check.due("no FAULT", s.fault(0), 0);
    }

    private static void frame(PictureStudio s, int... values) {
        byte[] bytes = new byte[2 * values.length];
        for (int i = 0; i < values.length; i++) {
            bytes[2 * i] = (byte) (values[i] >> 8);
            bytes[2 * i + 1] = (byte) values[i];
        }
        Check.feedBytes(s, bytes);
    }

    private static void rawFrame() {
        PictureStudio s = Check.studio(3, 3);
        s.layer(1, -1, 0);
        s.layer(0, 0, 0);
        frame(s, 160, 320, 480, 640, 800, 960, 1120, 1280, 1440);
        Check.due("its number", s.raw(), 2);
        Check.due("PIXELS", s.about(2, 0), 0);
        Check.due("of the DOCUMENT", s.about(2, 1), -1);
        Check.due("the highest", s.about(2, 2), 1);
        Check.due("no FAULT", s.fault(0), 0);
        // R 10 30 / 70 90, G 20 / 40 60 / 80, B 50 (times 16)
        int[] due = {0xFF0A1E32, 0xFF141432, 0xFF1E2832, 0xFF282832, 0xFF323232, 0xFF3C3C32, 0xFF463C32, 0xFF505032,
            0xFF5A4632};
        Check.duePixels("raw", s, 2, due);
        s.undo();
        Check.due("undone", s.count(2), 2);
        PictureStudio q = Check.studio(1, 2);
        frame(q, 15, 4095);
        q.raw();
        Check.duePixels("what has none around is 0", q, 0, 0xFF00FF00, 0xFF00FF00);
        PictureStudio g = Check.studio(2, 2);
        frame(g, 4000, 3000, 3000, 2000);
        g.raw();
        Check.duePixels("gains are 64 at first", g, 0, 0xFFFABB7D, 0xFFFABB7D, 0xFFFABB7D, 0xFFFABB7D);
        PictureStudio r = Check.studio(2, 2);
        frame(r, 0, 16, 31, 48);
        r.raw();
        Check.duePixels("the mean (16 + 31 + 1) / 2 is 24", r, 0, 0xFF000103, 0xFF000103, 0xFF000103, 0xFF000103);
    }

    private static void rawDeveloped() {
        PictureStudio s = Check.studio(2, 2);
        s.develop(0, 100);
        s.develop(1, 128);
        s.develop(2, 32);
        s.develop(3, 1024);
        frame(s, 260, 740, 99, 4095);
        s.raw();
        // R 160 128 / 64 = 320; G 640 32 / 64 = 320 and 0: the mean 160; B at most 4095
        Check.duePixels("black and gains", s, 0, 0xFF140AFF, 0xFF1414FF, 0xFF1400FF, 0xFF140AFF);
    }
}
