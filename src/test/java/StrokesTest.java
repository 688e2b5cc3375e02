import java.util.Arrays;
import java.util.function.IntConsumer;

/** Drawing on PIXELS: promises 18 (stroke), 20 (path) and 21 (text). */
public final class StrokesTest {
    public static void main(String[] args) {
        strokeRefusals();
        dab();
        dabsAlongLines();
        pressure();
        coverGathers();
        strokesOfEachSort();
        strokeWithinSelection();
        pathRefusals();
        pathCoverage();
        pathRules();
        pathFigures();
        pathCurves();
        textRefusals();
        text();
        Check.done("StrokesTest");
    }

    private static void wrongKinds(String what, PictureStudio s, IntConsumer call) {
        Check.bad(what + ": a FILL", () -> call.accept(1));
        Check.missing(what + ": a LAYER that isn't there", () -> call.accept(2));
        Check.missing(what + ": LAYER -1", () -> call.accept(-1));
    }

    private static PictureStudio twoKinds(int w, int h) {
        PictureStudio s = Check.canvas(w, h);
        s.layer(2, -1, 0);
        return s;
    }

    private static void strokeRefusals() {
        PictureStudio s = twoKinds(2, 2);
        Check.refused("no POINTS", () -> s.stroke(0, 0));
        Check.bad("another KIND comes ahead of REFUSED", () -> s.stroke(1, 0));
        s.point(0, 0, 255);
        wrongKinds("stroke", s, l -> s.stroke(l, 0));
        Check.bad("how -1", () -> s.stroke(0, -1));
        Check.bad("how 4", () -> s.stroke(0, 4));
        Check.bad("bad comes ahead of missing", () -> s.stroke(2, 4));
        Check.due("POINTS stay when a stroke throws", s.count(7), 1);
        Check.due("no EDIT then", s.count(3), 2);
        s.stroke(0, 0);
        Check.due("none are there then", s.count(7), 0);
        Check.due("an EDIT", s.count(3), 3);
        Check.refused("no POINTS again", () -> s.stroke(0, 0));
    }

    /** A of the first row, one number a pixel. */
    private static void dueRow(String what, PictureStudio s, int... alphas) {
        for (int x = 0; x < alphas.length; x++) {
            Check.due(what + " at " + x, s.pixel(0, x, 0) >>> 24, alphas[x]);
        }
    }

    private static PictureStudio dabbed(int size, int hard, int flow, int opacity, int pressure) {
        PictureStudio s = Check.canvas(5, 1);
        s.brush(size, hard, 64, flow, opacity);
        s.point(10, 2, pressure);
        s.stroke(0, 0);
        return s;
    }

    private static void dab() {
        dueRow("radius 3 / 4", dabbed(3, 255, 255, 255, 255), 0, 0, 255, 0, 0);
        dueRow("radius 1: D not above R", dabbed(4, 255, 255, 255, 255), 0, 255, 255, 255, 0);
        dueRow("radius 2, not hard: 255 (32 - 16) / 32", dabbed(8, 0, 255, 255, 255), 0, 127, 255, 127, 0);
        // H = 32 128 / 255 = 16: D 16 isn't above it
        dueRow("radius 2, half hard", dabbed(8, 128, 255, 255, 255), 0, 255, 255, 255, 0);
        // H = 15: 255 (32 - 16) / (32 - 15)
        dueRow("radius 2, less hard", dabbed(8, 127, 255, 255, 255), 0, 240, 255, 240, 0);
        dueRow("by flow, pressure, opacity", dabbed(8, 0, 200, 128, 128), 0, 25, 50, 25, 0);
        dueRow("no flow", dabbed(8, 0, 0, 255, 255), 0, 0, 0, 0, 0);
        PictureStudio s = Check.canvas(3, 3);
        s.brush(4, 255, 2, 255, 255);
        s.point(6, 6, 255);
        Check.due("how many changed", s.stroke(0, 0), 5);
        Check.due("a corner is farther than 1", s.pixel(0, 0, 0), 0);
        s.point(-200, 200, 255);
        Check.due("far away", s.stroke(0, 0), 0);
        s.point(-2, 6, 255);
        s.brush(4, 255, 2, 255, 255);
        Check.due("from outside", s.stroke(0, 1), 1);
    }

    /** The pixels of a row that a small BRUSH hits: it has to come within a quarter of their middle. */
    private static void dueHits(String what, int spacing, int[] places, int... hits) {
        PictureStudio s = Check.canvas(8, 1);
        s.brush(1, 255, spacing, 255, 255);
        for (int x : places) {
            s.point(x, 2, 255);
        }
        s.stroke(0, 0);
        int[] due = new int[8];
        for (int x : hits) {
            due[x] = 255;
        }
        dueRow(what, s, due);
    }

    private static void dabsAlongLines() {
        dueHits("one POINT", 2, new int[] {2}, 0);
        dueHits("a line", 4, new int[] {2, 18}, 0, 1, 2, 3, 4);
        dueHits("backwards", 4, new int[] {18, 2}, 0, 1, 2, 3, 4);
        dueHits("each second", 8, new int[] {2, 30}, 0, 2, 4, 6);
        dueHits("the end isn't come to", 8, new int[] {2, 17}, 0, 2);
        dueHits("the end is come to", 8, new int[] {2, 18}, 0, 2, 4);
        // DABS at 2, 8, then 2 are left: at 10 + 4, 10 + 10
        dueHits("what is left goes on", 6, new int[] {2, 10, 24}, 0, 3);
        dueHits("what is left is gathered", 12, new int[] {2, 5, 8, 14}, 0, 3);
        dueHits("the same place again", 4, new int[] {2, 2, 2, 6}, 0, 1);
        dueHits("to and fro", 4, new int[] {6, 8, 6}, 1);
        PictureStudio s = Check.canvas(4, 4);
        s.brush(1, 255, 5, 255, 255);
        s.point(10, 10, 255);
        s.point(2, 4, 255);
        s.stroke(0, 0);
        Check.due("aslant: 10, 10", s.pixel(0, 2, 2), 0xFF000000);
        Check.due("aslant: 6, 7", s.pixel(0, 1, 1), 0xFF000000);
        Check.due("aslant: 2, 4 is too far from 2, 2", s.pixel(0, 0, 0), 0);
        s.undo();
        s.point(14, 14, 255);
        s.point(5, 14, 255);
        s.brush(1, 255, 8, 255, 255);
        Check.due("-9 8 / 9 is -8: at 6", s.stroke(0, 0), 2);
        s.brush(1, 255, 2, 255, 255);
        s.point(2, 14, 255);
        s.point(-5, 5, 255);
        // L = ROOT(130) = 11; d 2: -14 / 11 = -1, -18 / 11 = -1: at 1, 13: not within a quarter
        Check.due("cut towards 0", s.stroke(0, 0), 1);
    }

    private static void pressure() {
        PictureStudio s = Check.canvas(5, 1);
        s.brush(1, 255, 8, 255, 255);
        s.point(2, 2, 0);
        s.point(18, 2, 201);
        s.stroke(0, 0);
        dueRow("rising", s, 0, 0, 100, 0, 201);
        s.undo();
        s.point(2, 2, 201);
        s.point(18, 2, 0);
        s.stroke(0, 0);
        dueRow("falling: 201 - 100", s, 201, 0, 101, 0, 0);
    }

    private static void coverGathers() {
        PictureStudio s = Check.canvas(3, 1);
        s.brush(1, 255, 2, 128, 255);
        s.point(6, 2, 255);
        s.point(8, 2, 255);
        s.point(6, 2, 255);
        s.stroke(0, 0);
        dueRow("two DABS of 128: 128 + MUL(127, 128)", s, 0, 192, 0);
        s.undo();
        s.brush(1, 255, 2, 128, 128);
        s.point(6, 2, 255);
        s.point(8, 2, 255);
        s.point(6, 2, 255);
        s.stroke(0, 0);
        dueRow("opacity counts at the end", s, 0, 96, 0);
    }

    private static void strokesOfEachSort() {
        PictureStudio s = Check.canvas(3, 1);
        Check.paint(s, 0, 0xFF102030, 0x80405060, 0x00FFFFFF);
        s.front(0x80FF0000);
        s.brush(64, 255, 2, 255, 255);
        s.point(6, 2, 255);
        Check.due("over", s.stroke(0, 0), 3);
        Check.duePixels("over", s, 0, 0xFF881018, 0xC0C01B20, 0x80FF0000);
        s.undo();
        s.point(6, 2, 255);
        Check.due("erase by A of FRONT", s.stroke(0, 1), 2);
        Check.duePixels("erase", s, 0, 0x7F102030, 0x40405060, 0x00FFFFFF);
        s.undo();
        s.source(-1, 0);
        s.point(6, 2, 255);
        Check.due("clone from the left", s.stroke(0, 2), 2);
        Check.duePixels("as it was ahead of the stroke; 0 beyond", s, 0, 0xFF102030, 0xFF102030, 0x80405060);
        s.undo();
        s.point(6, 2, 255);
        Check.due("soften", s.stroke(0, 3), 3);
        // A (255 2 + 128) / 3, R (16 510 + 64 128) / 638; (255 + 128) / 3; 128 / 3
        Check.duePixels("soften", s, 0, 0xD51A2A3A, 0x80203040, 0x2B405060);
        s.undo();
        s.brush(1, 255, 2, 128, 255);
        s.point(6, 2, 255);
        s.stroke(0, 3);
        Check.duePixels("soften by MIX", s, 0, 0xFF102030, 0x80304050, 0x00FFFFFF);
    }

    private static void strokeWithinSelection() {
        PictureStudio s = Check.canvas(3, 1);
        s.brush(64, 255, 2, 255, 255);
        s.select(2, 0, 0, 0, 2, 1);
        s.set(0, 4, 1);
        s.point(6, 2, 255);
        Check.due("in its own places", s.stroke(0, 0), 1);
        dueRow("by the SELECTION behind the shift", s, 223, 0, 0);
        s.brush(1, 255, 2, 255, 255);
        s.select(0, 0, 0, 0, 0, 0);
        s.point(6, 2, 255);
        s.stroke(0, 0);
        dueRow("POINTS are in its own places, too", s, 223, 255, 0);
        s.point(10, 2, 255);
        Check.due("beyond the DOCUMENT the SELECTION is 0", s.stroke(0, 0), 0);
    }

    private static void pathRefusals() {
        PictureStudio s = twoKinds(2, 2);
        wrongKinds("path", s, l -> s.path(l, 0, 0));
        Check.bad("PATH -1", () -> s.path(0, -1, 0));
        Check.bad("PATH 8", () -> s.path(0, 8, 0));
        Check.bad("rule -1", () -> s.path(0, 0, -1));
        Check.bad("rule 2", () -> s.path(0, 0, 2));
        Check.bad("bad comes ahead of missing", () -> s.path(2, 8, 0));
        Check.due("no EDIT then", s.count(3), 2);
        Check.due("an empty PATH", s.path(0, 7, 1), 0);
        Check.due("is an EDIT", s.count(3), 3);
    }

    /** A of all pixels behind a path filled on a new canvas of 3 by 2. */
    private static int[] filled(int rule, int... boxes) {
        PictureStudio s = Check.canvas(3, 2);
        for (int i = 0; i < boxes.length; i += 4) {
            Check.box(s, 0, boxes[i], boxes[i + 1], boxes[i + 2], boxes[i + 3]);
        }
        s.path(0, 0, rule);
        return alphas(s);
    }

    private static int[] alphas(PictureStudio s) {
        int[] all = new int[s.count(0) * s.count(1)];
        for (int i = 0; i < all.length; i++) {
            all[i] = s.pixel(0, i % s.count(0), i / s.count(0)) >>> 24;
        }
        return all;
    }

    private static void dueAll(String what, int[] got, int... want) {
        Check.due(what + " " + Arrays.toString(got) + " is " + Arrays.toString(want), Arrays.equals(got, want) ? 1 : 0, 1);
    }

    private static void pathCoverage() {
        dueAll("a pixel", filled(0, 16, 0, 32, 16), 0, 255, 0, 0, 0, 0);
        dueAll("one and a half", filled(0, 0, 0, 24, 16), 255, 128, 0, 0, 0, 0);
        dueAll("halves of rows", filled(0, 0, 8, 16, 24), 128, 0, 0, 128, 0, 0);
        dueAll("just one point", filled(0, 2, 2, 6, 6), 16, 0, 0, 0, 0, 0);
        dueAll("an end at a point's place isn't in", filled(0, -50, -50, 2, 60), 0, 0, 0, 0, 0, 0);
        dueAll("a beginning is", filled(0, 46, 30, 900, 900), 0, 0, 0, 0, 0, 16);
        dueAll("from far outside", filled(0, -2000, -2000, 2000, 2000), 255, 255, 255, 255, 255, 255);
        dueAll("turned the other way", filled(0, 32, 0, 16, 16), 0, 255, 0, 0, 0, 0);
        PictureStudio s = Check.canvas(2, 2);
        s.front(0x80FF0000);
        s.select(2, 0, 0, 0, 2, 1);
        Check.box(s, 3, 0, 0, 16, 32);
        Check.due("by the SELECTION", s.path(0, 3, 0), 1);
        Check.duePixels("FRONT over", s, 0, 0x70FF0000, 0, 0, 0);
        s.set(0, 4, 1);
        s.select(1, 0, 1, 1, 1, 1);
        s.path(0, 3, 0);
        Check.duePixels("at the shifted place", s, 0, 0x70FF0000, 0, 0x80FF0000, 0);
        s.set(0, 5, -1);
        s.select(1, 0, 1, 0, 1, 1);
        s.path(0, 3, 0);
        Check.duePixels("at the shifted place, up", s, 0, 0x70FF0000, 0, 0xC0FF0000, 0);
    }

    private static void pathRules() {
        dueAll("rule 0, the same way", filled(0, 0, 0, 48, 32, 16, 0, 32, 16), 255, 255, 255, 255, 255, 255);
        dueAll("rule 1, the same way", filled(1, 0, 0, 48, 32, 16, 0, 32, 16), 255, 0, 255, 255, 255, 255);
        dueAll("rule 0, the other way", filled(0, 0, 0, 48, 32, 32, 0, 16, 16), 255, 0, 255, 255, 255, 255);
        dueAll("rule 1, the other way", filled(1, 0, 0, 48, 32, 32, 0, 16, 16), 255, 0, 255, 255, 255, 255);
        dueAll("rule 0, three", filled(0, 0, 0, 48, 32, 0, 0, 48, 32, 0, 0, 16, 16), 255, 255, 255, 255, 255, 255);
        dueAll("rule 1, three", filled(1, 0, 0, 48, 32, 0, 0, 48, 32, 0, 0, 16, 16), 255, 0, 0, 0, 0, 0);
        dueAll("rule 1, turned the other way", filled(1, 32, 0, 16, 16), 0, 255, 0, 0, 0, 0);
    }

    private static void pathFigures() {
        PictureStudio s = Check.canvas(3, 2);
        s.step(0, 1, 0, 0);
        s.step(0, 1, 48, 0);
        s.step(0, 1, 48, 16);
        s.step(0, 1, 0, 16);
        Check.box(s, 0, 16, 16, 32, 32);
        s.step(0, 2, 0, 0);
        s.path(0, 0, 0);
        dueAll("the first STEP begins a figure, the last control counts for nothing", alphas(s), 255, 255, 255, 0, 255, 0);
        s.undo();
        s.step(0, 3, 0, 0);
        s.step(0, 0, 0, 0);
        s.step(0, 0, 0, 0);
        s.step(0, 1, 32, 32);
        s.step(0, 1, 0, 32);
        s.path(0, 0, 0);
        dueAll("a triangle", alphas(s), 96, 0, 0, 255, 96, 0);
    }

    private static void pathCurves() {
        PictureStudio s = Check.canvas(3, 2);
        s.step(0, 0, 0, 0);
        s.step(0, 2, 32, 0);
        s.step(0, 1, 32, 32);
        s.step(0, 1, 0, 32);
        s.path(0, 0, 0);
        dueAll("a curve, then a line", alphas(s), 239, 96, 0, 255, 239, 0);
        s.undo();
        s.step(0, 3, 0, 0);
        s.step(0, 0, -5, 33);
        s.step(0, 2, 51, -40);
        s.step(0, 1, 45, 31);
        s.step(0, 2, 20, 40);
        s.step(0, 1, 3, 1);
        s.path(0, 0, 1);
        dueAll("two curves", alphas(s), 96, 207, 191, 64, 207, 191);
    }

    private static void textRefusals() {
        PictureStudio s = twoKinds(2, 1);
        wrongKinds("text", s, l -> s.text(l, 0, 0));
        Check.bad("x -2001", () -> s.text(0, -2001, 0));
        Check.bad("x 2001", () -> s.text(0, 2001, 0));
        Check.bad("y -2001", () -> s.text(0, 0, -2001));
        Check.bad("y 2001, ahead of missing", () -> s.text(2, 0, 2001));
        s.feed(0, 0, 0, 0, 0);
        Check.missing("a LAYER that isn't there", () -> s.text(2, 0, 0));
        Check.due("INPUT is empty all the same", s.count(8), 0);
        Check.due("no EDIT then", s.count(3), 2);
        Check.due("a text of nothing", s.text(0, 2000, -2000), 0);
        Check.due("is an EDIT", s.count(3), 3);
    }

    private static void text() {
        PictureStudio s = Check.canvas(4, 1);
        Check.box(s, 0, 0, 0, 16, 16);
        s.glyph('A', 0, 16);
        s.glyph('B', 0, 0);
        s.glyph('C', 1, 32);
        s.front(0x80C86432);
        Check.feedBytes(s, (byte) 'A', (byte) 'z', (byte) 'A');
        Check.due("bytes without a GLYPH are left out", s.text(0, 0, 0), 2);
        dueAll("x goes on by the advance", alphas(s), 128, 128, 0, 0);
        Check.due("INPUT is empty", s.count(8), 0);
        s.undo();
        Check.feedBytes(s, (byte) 'B', (byte) 'B', (byte) 'C', (byte) 'A');
        Check.due("two at one place, one of an empty PATH", s.text(0, 8, 0), 4);
        dueAll("each is filled for itself", alphas(s), 112, 112, 64, 64);
        Check.dueColour("FRONT over, twice", s.pixel(0, 0, 0), 0x70C86432);
        s.undo();
        Check.feedBytes(s, (byte) 'A');
        Check.due("y counts, too", s.text(0, 32, 8), 1);
        dueAll("y counts, too", alphas(s), 0, 0, 64, 0);
        s.undo();
        byte[] many = new byte[41];
        many[40] = 'A';
        Check.feedBytes(s, many);
        Check.due("the 41st byte", s.text(0, 0, 0), 0);
        many[39] = 'A';
        Check.feedBytes(s, many);
        Check.due("the 40th byte", s.text(0, 0, 0), 1);
        s.undo();
        s.step(2, 0, 0, 0);
        s.step(2, 2, 16, 0);
        s.step(2, 1, 16, 16);
        s.step(2, 1, 0, 16);
        Check.box(s, 2, 0, 0, 16, 16);
        s.glyph('D', 2, 800);
        Check.feedBytes(s, (byte) 'D');
        s.text(0, 16, 0);
        dueAll("rule 0, curves shifted", alphas(s), 0, 128, 0, 0);
    }
}
