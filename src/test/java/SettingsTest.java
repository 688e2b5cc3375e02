/** Promises 2 to 4 (INPUT) and 29 to 38 (what calls set): ranges, limits, and that what is set counts. */
public final class SettingsTest {
    public static void main(String[] args) {
        feed();
        end();
        fault();
        front();
        brush();
        source();
        point();
        curve();
        kernel();
        profile();
        develop();
        step();
        glyph();
        Check.done("SettingsTest");
    }

    private static void feed() {
        PictureStudio s = Check.studio(2, 1);
        Check.due("feed", s.feed(0x0FFF0800, 0, 0, 0, 0), 20);
        Check.due("feed again", s.feed(1, 2, 3, 4, 5), 40);
        Check.due("count(8)", s.count(8), 40);
        s.end(4);
        s.raw();
        Check.duePixels("the highest byte comes first", s, 0, 0xFFFF8000, 0xFFFF8000);
        for (int i = 1; i <= 400; i++) {
            Check.due("feed " + i, s.feed(-1, -1, -1, -1, -1), 20 * i);
        }
        Check.full("feed beyond 8000", () -> s.feed(0, 0, 0, 0, 0));
        Check.due("INPUT when FULL", s.count(8), 8000);
        s.end(7981);
        Check.full("feed beyond 8000 by one", () -> s.feed(0, 0, 0, 0, 0));
        s.end(7980);
        Check.due("feed up to 8000", s.feed(0, 0, 0, 0, 0), 8000);
    }

    private static void end() {
        PictureStudio s = Check.studio(1, 1);
        Check.due("end(0) of nothing", s.end(0), 0);
        Check.bad("end(1) of nothing", () -> s.end(1));
        s.feed(0x01234567, 0, 0, 0, 0);
        Check.bad("end(-1)", () -> s.end(-1));
        Check.bad("end(21)", () -> s.end(21));
        Check.due("end(20)", s.end(20), 20);
        Check.due("end(1)", s.end(1), 1);
        Check.due("count(8)", s.count(8), 1);
        s.feed(0xFF000000, 0, 0, 0, 0);
        s.end(2);
        s.raw();
        Check.duePixels("the first byte stays, what is fed comes behind", s, 0, 0xFF1F0000);
    }

    private static void fault() {
        PictureStudio s = Check.canvas(1, 1);
        Check.due("fault(0) of a new object", s.fault(0), 0);
        Check.due("fault(1) of a new object", s.fault(1), 0);
        Check.due("fault(2)", s.fault(2), -1);
        Check.due("fault(-1)", s.fault(-1), -1);
        s.feed(0, 0, 0, 0, 0);
        Check.faulty("a frame too long", s, () -> s.raw(), 1, 20);
        Check.due("INPUT is empty behind a FAULT", s.count(8), 0);
        s.feed(0, 0, 0, 0, 0);
        Check.due("other calls leave the FAULT", s.fault(0), 1);
        Check.bad("a text from a bad place", () -> s.text(0, 2001, 0));
        Check.due("the latest [INPUT] call had none", s.fault(0), 0);
        Check.due("nor a place", s.fault(1), 0);
        Check.due("INPUT is empty behind a bad call", s.count(8), 0);
    }

    private static void front() {
        PictureStudio s = Check.canvas(1, 1);
        s.fill(0, 0);
        Check.duePixels("FRONT at first", s, 0, 0xFF000000);
        s.front(0x12345678);
        s.fill(0, 2);
        Check.duePixels("FRONT", s, 0, 0x12345678);
    }

    private static void brush() {
        PictureStudio s = Check.canvas(2, 2);
        Check.bad("size 0", () -> s.brush(0, 0, 2, 0, 0));
        Check.bad("size 65", () -> s.brush(65, 0, 2, 0, 0));
        Check.bad("hard -1", () -> s.brush(1, -1, 2, 0, 0));
        Check.bad("hard 256", () -> s.brush(1, 256, 2, 0, 0));
        Check.bad("spacing 1", () -> s.brush(1, 0, 1, 0, 0));
        Check.bad("spacing 65", () -> s.brush(1, 0, 65, 0, 0));
        Check.bad("flow -1", () -> s.brush(1, 0, 2, -1, 0));
        Check.bad("flow 256", () -> s.brush(1, 0, 2, 256, 0));
        Check.bad("opacity -1", () -> s.brush(1, 0, 2, 0, -1));
        Check.bad("opacity 256", () -> s.brush(1, 0, 2, 0, 256));
        s.brush(1, 0, 2, 0, 0);
        s.brush(64, 255, 64, 255, 255);
        s.point(2, 2, 255);
        Check.due("a great BRUSH covers all", s.stroke(0, 0), 4);
    }

    private static void source() {
        PictureStudio s = Check.canvas(2, 1);
        Check.bad("cx -101", () -> s.source(-101, 0));
        Check.bad("cx 101", () -> s.source(101, 0));
        Check.bad("cy -101", () -> s.source(0, -101));
        Check.bad("cy 101", () -> s.source(0, 101));
        s.source(100, -100);
        s.source(1, 0);
        Check.paint(s, 0, 0, 0xFF102030);
        s.point(2, 2, 255);
        s.brush(2, 255, 2, 255, 255);
        Check.due("what is right of it is cloned", s.stroke(0, 2), 1);
        Check.duePixels("clone", s, 0, 0xFF102030, 0xFF102030);
        PictureStudio q = Check.canvas(1, 3);
        Check.paint(q, 0, 0xFF000001, 0xFF000002, 0xFF000003);
        q.source(0, -1);
        q.point(2, 6, 255);
        q.brush(64, 255, 2, 255, 255);
        q.stroke(0, 2);
        Check.duePixels("what is above is cloned", q, 0, 0xFF000001, 0xFF000001, 0xFF000002);
    }

    private static void point() {
        PictureStudio s = Check.studio(1, 1);
        Check.bad("x -201", () -> s.point(-201, 0, 0));
        Check.bad("x 201", () -> s.point(201, 0, 0));
        Check.bad("y -201", () -> s.point(0, -201, 0));
        Check.bad("y 201", () -> s.point(0, 201, 0));
        Check.bad("pressure -1", () -> s.point(0, 0, -1));
        Check.bad("pressure 256", () -> s.point(0, 0, 256));
        for (int i = 1; i <= 20; i++) {
            Check.due("point " + i, s.point(i % 2 == 0 ? 200 : -200, i % 2 == 0 ? -200 : 200, i % 2 * 255), i);
        }
        Check.full("the 21st POINT", () -> s.point(0, 0, 0));
        Check.bad("bad comes ahead of FULL", () -> s.point(201, 0, 0));
        Check.due("count(7)", s.count(7), 20);
        s.open(2, 2);
        Check.due("open leaves POINTS", s.count(7), 20);
    }

    private static void curve() {
        PictureStudio s = Check.studio(1, 1);
        Check.bad("CURVE -1", () -> s.curve(-1, 0, 0, 0));
        Check.bad("CURVE 8", () -> s.curve(8, 0, 0, 0));
        Check.bad("channel -1", () -> s.curve(0, -1, 0, 0));
        Check.bad("channel 4", () -> s.curve(0, 4, 0, 0));
        Check.bad("x -2", () -> s.curve(0, 0, -2, 0));
        Check.bad("x 256", () -> s.curve(0, 0, 256, 0));
        Check.bad("y -1", () -> s.curve(0, 0, 0, -1));
        Check.bad("y 256", () -> s.curve(0, 0, 0, 256));
        for (int i = 0; i < 8; i++) {
            Check.due("point " + i, s.curve(7, 3, 255 - 30 * i, i), i + 1);
        }
        Check.full("the ninth point", () -> s.curve(7, 3, 1, 1));
        Check.bad("bad comes ahead of FULL", () -> s.curve(7, 3, 1, 256));
        Check.due("a point in place of one", s.curve(7, 3, 255, 9), 8);
        Check.due("another channel has its own", s.curve(7, 2, 0, 0), 1);
        Check.due("its points go, y isn't looked at", s.curve(7, 3, -1, 999), 0);
        Check.due("the first one again", s.curve(7, 3, 1, 1), 1);
    }

    private static void kernel() {
        PictureStudio s = Check.canvas(2, 1);
        Check.bad("number -1", () -> s.kernel(-1, 1));
        Check.bad("number 11", () -> s.kernel(11, 1));
        for (int i = 0; i < 9; i++) {
            int k = i;
            Check.bad("number below -100", () -> s.kernel(k, -101));
            Check.bad("number above 100", () -> s.kernel(k, 101));
        }
        Check.bad("DIVISOR 0", () -> s.kernel(9, 0));
        Check.bad("DIVISOR 1001", () -> s.kernel(9, 1001));
        Check.bad("OFFSET -256", () -> s.kernel(10, -256));
        Check.bad("OFFSET 256", () -> s.kernel(10, 256));
        for (int i = 0; i < 9; i++) {
            s.kernel(i, 100);
            s.kernel(i, -100);
            s.kernel(i, i == 4 ? 1 : 0);
        }
        s.kernel(9, 1000);
        s.kernel(9, 1);
        s.kernel(10, 255);
        s.kernel(10, -255);
        s.kernel(10, 0);
        Check.paint(s, 0, 0xFF0A141E, 0x80646464);
        Check.due("the KERNEL at first leaves all", s.filter(0, 10, 0), 0);
        s.kernel(4, 0);
        s.kernel(5, -100);
        s.kernel(9, 1000);
        s.kernel(10, 255);
        s.filter(0, 10, 0);
        Check.duePixels("what is right, by -100 / 1000, plus 255", s, 0, 0xFFF5F5F5, 0x80F5F5F5);
    }

    private static void profile() {
        PictureStudio s = Check.canvas(1, 1);
        Check.bad("PROFILE -1", () -> s.profile(-1, 0, 0));
        Check.bad("PROFILE 4", () -> s.profile(4, 0, 0));
        Check.bad("number -1", () -> s.profile(0, -1, 0));
        Check.bad("number 10", () -> s.profile(0, 10, 0));
        Check.bad("below -4096", () -> s.profile(0, 8, -4097));
        Check.bad("above 4096", () -> s.profile(0, 8, 4097));
        Check.bad("sort -1", () -> s.profile(0, 9, -1));
        Check.bad("sort 3", () -> s.profile(0, 9, 3));
        s.profile(3, 8, -4096);
        s.profile(3, 8, 4096);
        s.profile(3, 9, 2);
        s.profile(3, 9, 0);
        Check.paint(s, 0, 0xFF804020);
        s.convert(0, 2, 2);
        Check.duePixels("PROFILES are 1 at first", s, 0, 0xFF804020);
    }

    private static void develop() {
        PictureStudio s = Check.studio(1, 1);
        Check.bad("what -1", () -> s.develop(-1, 0));
        Check.bad("what 4", () -> s.develop(4, 0));
        Check.bad("black -1", () -> s.develop(0, -1));
        Check.bad("black 4096", () -> s.develop(0, 4096));
        for (int i = 1; i <= 3; i++) {
            int k = i;
            Check.bad("gain -1", () -> s.develop(k, -1));
            Check.bad("gain 1025", () -> s.develop(k, 1025));
            s.develop(k, 1024);
        }
        s.develop(0, 4095);
        s.develop(0, 0x100);
        Check.feedBytes(s, (byte) 1, (byte) 16);
        s.raw();
        Check.duePixels("(0x110 - 0x100) 1024 / 64", s, 0, 0xFF100000);
    }

    private static void step() {
        PictureStudio s = Check.studio(1, 1);
        Check.bad("PATH -1", () -> s.step(-1, 0, 0, 0));
        Check.bad("PATH 8", () -> s.step(8, 0, 0, 0));
        Check.bad("kind -1", () -> s.step(0, -1, 0, 0));
        Check.bad("kind 4", () -> s.step(0, 4, 0, 0));
        Check.bad("x -2001", () -> s.step(0, 0, -2001, 0));
        Check.bad("x 2001", () -> s.step(0, 0, 2001, 0));
        Check.bad("y -2001", () -> s.step(0, 0, 0, -2001));
        Check.bad("y 2001", () -> s.step(0, 0, 0, 2001));
        Check.refused("a control first", () -> s.step(0, 2, 0, 0));
        Check.bad("bad comes ahead of REFUSED", () -> s.step(0, 2, 2001, 0));
        Check.due("a line first", s.step(0, 1, 2000, -2000), 1);
        Check.due("a control", s.step(0, 2, -2000, 2000), 2);
        Check.refused("a control behind a control", () -> s.step(0, 2, 0, 0));
        Check.refused("a move behind a control", () -> s.step(0, 0, 0, 0));
        Check.due("a line behind a control", s.step(0, 1, 0, 0), 3);
        for (int i = 4; i <= 39; i++) {
            Check.due("STEP " + i, s.step(0, i % 2, i, i), i);
        }
        Check.refused("a control as the 40th STEP", () -> s.step(0, 2, 0, 0));
        Check.due("the 40th STEP", s.step(0, 0, 0, 0), 40);
        Check.full("the 41st STEP", () -> s.step(0, 0, 0, 0));
        Check.full("a control as the 41st", () -> s.step(0, 2, 0, 0));
        Check.due("another PATH has its own", s.step(7, 0, 0, 0), 1);
        Check.due("its STEPS go, x, y aren't looked at", s.step(0, 3, 9999, -9999), 0);
        Check.due("the first one again", s.step(0, 0, 1, 1), 1);
    }

    private static void glyph() {
        PictureStudio s = Check.canvas(1, 1);
        Check.bad("byte -1", () -> s.glyph(-1, 0, 0));
        Check.bad("byte 256", () -> s.glyph(256, 0, 0));
        Check.bad("PATH -2", () -> s.glyph(0, -2, 0));
        Check.bad("PATH 8", () -> s.glyph(0, 8, 0));
        Check.bad("advance -1", () -> s.glyph(0, 0, -1));
        Check.bad("advance 801", () -> s.glyph(0, 0, 801));
        s.glyph(255, 7, 800);
        square(s, 7);
        Check.feedBytes(s, (byte) 255);
        Check.due("a text with the GLYPH", s.text(0, 0, 0), 1);
        s.undo();
        s.glyph(255, -1, 0);
        Check.feedBytes(s, (byte) 255);
        Check.due("a text when it has none", s.text(0, 0, 0), 0);
    }

    private static void square(PictureStudio s, int p) {
        Check.box(s, p, 0, 0, 16, 16);
    }
}
