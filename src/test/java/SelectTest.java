/** The SELECTION: promises 26 (select), 27 (reselect) and 28 (selected). */
public final class SelectTest {
    public static void main(String[] args) {
        refusals();
        box();
        ways();
        ellipse();
        wand();
        layersAlpha();
        paths();
        reselectRefusals();
        turned();
        grownAndShrunk();
        softened();
        Check.done("SelectTest");
    }

    private static void refusals() {
        PictureStudio s = Check.canvas(4, 3);
        s.layer(2, -1, 1);
        Check.bad("shape -1", () -> s.select(-1, 0, 0, 0, 0, 0));
        Check.bad("shape 7", () -> s.select(7, 0, 0, 0, 0, 0));
        Check.bad("way -1", () -> s.select(0, -1, 0, 0, 0, 0));
        Check.bad("way 4", () -> s.select(0, 4, 0, 0, 0, 0));
        for (int i = 0; i < 3; i++) {
            int shape = i;
            Check.bad("a -101", () -> s.select(shape, 0, -101, 0, 0, 0));
            Check.bad("a 101", () -> s.select(shape, 0, 101, 0, 0, 0));
            Check.bad("b -101", () -> s.select(shape, 0, 0, -101, 0, 0));
            Check.bad("b 101", () -> s.select(shape, 0, 0, 101, 0, 0));
            Check.bad("c below", () -> s.select(shape, 0, 0, 0, shape == 0 ? -101 : -1, 0));
            Check.bad("c 101", () -> s.select(shape, 0, 0, 0, 101, 0));
            Check.bad("d below", () -> s.select(shape, 0, 0, 0, 0, shape == 0 ? -101 : -1));
            Check.bad("d 101", () -> s.select(shape, 0, 0, 0, 0, 101));
        }
        for (int i = 3; i < 5; i++) {
            int shape = i;
            Check.bad("a -1", () -> s.select(shape, 0, -1, 0, 0, 0));
            Check.bad("a 4", () -> s.select(shape, 0, 4, 0, 0, 0));
            Check.bad("b -1", () -> s.select(shape, 0, 0, -1, 0, 0));
            Check.bad("b 3", () -> s.select(shape, 0, 0, 3, 0, 0));
            Check.bad("c -1", () -> s.select(shape, 0, 0, 0, -1, 0));
            Check.bad("c 256", () -> s.select(shape, 0, 0, 0, 256, 0));
            Check.bad("d 101", () -> s.select(shape, 0, 0, 0, 0, 101));
            Check.due("the ends", s.select(shape, 1, 3, 2, 255, -100), 12);
        }
        Check.missing("LAYER -1", () -> s.select(5, 0, -1, 0, 0, 0));
        Check.missing("LAYER 2", () -> s.select(5, 0, 2, 0, 0, 0));
        Check.missing("a FILL", () -> s.select(5, 0, 1, 0, 0, 0));
        Check.bad("bad comes ahead of missing", () -> s.select(5, 4, 2, 0, 0, 0));
        Check.bad("PATH -1", () -> s.select(6, 0, -1, 0, 0, 0));
        Check.bad("PATH 8", () -> s.select(6, 0, 8, 0, 0, 0));
        Check.bad("rule -1", () -> s.select(6, 0, 0, -1, 0, 0));
        Check.bad("rule 2", () -> s.select(6, 0, 0, 2, 0, 0));
        Check.due("all is as it was", s.reselect(1, 1), 12);
        Check.due("no EDITS", s.count(3), 2);
        Check.missing("selected x -1", () -> s.selected(-1, 0));
        Check.missing("selected x 4", () -> s.selected(4, 0));
        Check.missing("selected y -1", () -> s.selected(0, -1));
        Check.missing("selected y 3", () -> s.selected(0, 3));
    }

    private static void box() {
        PictureStudio s = Check.studio(3, 2);
        Check.due("a box", s.select(1, 0, 1, 0, 1, 2), 2);
        Check.dueSelected("a box", s, 0, 255, 0, 0, 255, 0);
        Check.due("from outside", s.select(1, 0, -100, 1, 100, 100), 0);
        Check.due("from outside", s.select(1, 0, -99, 1, 100, 100), 1);
        Check.due("none", s.select(1, 0, 0, 0, 0, 2), 0);
        Check.due("all", s.select(0, 0, 100, -100, 100, -100), 6);
    }

    private static void ways() {
        PictureStudio s = Check.studio(4, 1);
        s.select(2, 0, 0, 0, 2, 1);
        Check.dueSelected("0", s, 223, 223, 0, 0);
        Check.due("1", s.select(1, 1, 1, 0, 2, 1), 3);
        Check.dueSelected("the greater", s, 223, 255, 255, 0);
        Check.due("2", s.select(2, 2, 0, 0, 2, 1), 2);
        Check.dueSelected("old - v, at least 0", s, 0, 32, 255, 0);
        Check.due("3", s.select(2, 3, 1, 0, 2, 1), 2);
        Check.dueSelected("the lesser", s, 0, 32, 223, 0);
        s.select(0, 2, 0, 0, 0, 0);
        Check.dueSelected("nothing is left", s, 0, 0, 0, 0);
    }

    private static void ellipse() {
        PictureStudio s = Check.studio(3, 3);
        Check.due("in a box of 3 by 3", s.select(2, 0, 0, 0, 3, 3), 9);
        Check.dueSelected("in a box of 3 by 3", s, 128, 255, 128, 255, 255, 255, 128, 255, 128);
        s.select(2, 0, 0, 0, 1, 1);
        Check.dueSelected("in one pixel", s, 191, 0, 0, 0, 0, 0, 0, 0, 0);
        Check.due("c 0", s.select(2, 0, 0, 0, 0, 3), 0);
        Check.due("d 0", s.select(2, 0, 0, 0, 3, 0), 0);
        Check.due("from outside", s.select(2, 0, -50, -50, 100, 100), 9);
        s.select(2, 0, -1, 0, 3, 2);
        Check.dueSelected("cut off", s, 255, 191, 0, 255, 191, 0, 0, 0, 0);
    }

    private static void wand() {
        PictureStudio s = Check.canvas(4, 3);
        int a = 0xFF646464;
        int b = 0xFF6E6464;
        int c = 0xFF000000;
        Check.paint(s, 0, a, b, c, a, c, b, c, c, b, a, a, a);
        Check.due("c 0", s.select(3, 0, 0, 0, 0, 0), 1);
        Check.due("c 9", s.select(3, 0, 0, 0, 9, 0), 1);
        Check.due("c 10", s.select(3, 0, 0, 0, 10, 0), 7);
        Check.dueSelected("by steps", s, 255, 255, 0, 0, 0, 255, 0, 0, 255, 255, 255, 255);
        Check.due("from its other end", s.select(3, 0, 3, 2, 10, 0), 7);
        Check.due("no steps aslant", s.select(3, 0, 3, 0, 10, 0), 1);
        Check.due("all four samples count", s.select(3, 0, 0, 0, 255, 0), 12);
        Check.due("without steps", s.select(4, 0, 0, 0, 10, 0), 8);
        Check.due("without steps, c 0", s.select(4, 0, 0, 0, 0, 0), 5);
        Check.dot(s, 0, 1, 2, 0x63646464);
        Check.due("A counts, too", s.select(4, 0, 0, 0, 155, 0), 11);
        Check.due("A counts, too", s.select(4, 0, 0, 0, 156, 0), 12);
        Check.dot(s, 0, 1, 2, 0xFF6464FF);
        Check.due("B counts, too", s.select(4, 0, 0, 0, 154, 0), 11);
        Check.due("B counts, too", s.select(4, 0, 0, 0, 155, 0), 12);
        s.layer(5, -1, 1);
        s.colours(1, 6, 50);
        Check.due("what is seen", s.select(4, 0, 2, 0, 0, 0), 4);
        Check.due("no TILES are asked", s.count(5), 0);
    }

    private static void layersAlpha() {
        PictureStudio s = Check.canvas(3, 1);
        Check.paint(s, 0, 0x01FFFFFF, 0x80000000, 0x00FFFFFF);
        s.set(0, 0, 0);
        s.set(0, 2, 0);
        Check.due("A of its own pixels", s.select(5, 0, 0, 0, 0, 0), 2);
        Check.dueSelected("A of its own pixels", s, 1, 128, 0);
        s.set(0, 4, 1);
        Check.due("shifted", s.select(5, 0, 0, 9, 9, 9), 2);
        Check.dueSelected("shifted", s, 0, 1, 128);
    }

    private static void paths() {
        PictureStudio s = Check.studio(2, 1);
        for (int i = 0; i < 2; i++) {
            Check.box(s, 7, 0, 0, 24, 16);
        }
        Check.due("rule 0", s.select(6, 0, 7, 0, 0, 0), 2);
        Check.dueSelected("rule 0", s, 255, 128);
        Check.due("rule 1", s.select(6, 0, 7, 1, 0, 0), 0);
        Check.box(s, 6, 0, 2, 16, 14);
        s.select(6, 0, 6, 0, 0, 0);
        Check.dueSelected("where it lies", s, 191, 0);
        Check.due("an empty PATH", s.select(6, 0, 0, 0, 0, 0), 0);
    }

    private static void reselectRefusals() {
        PictureStudio s = Check.studio(2, 2);
        Check.bad("how -1", () -> s.reselect(-1, 1));
        Check.bad("how 4", () -> s.reselect(4, 1));
        Check.bad("turned by 1", () -> s.reselect(0, 1));
        Check.bad("turned by -1", () -> s.reselect(0, -1));
        for (int i = 1; i < 4; i++) {
            int how = i;
            Check.bad("by 0", () -> s.reselect(how, 0));
            Check.bad("by 9", () -> s.reselect(how, 9));
        }
        Check.due("as it was", s.selected(1, 1), 255);
    }

    private static void turned() {
        PictureStudio s = Check.studio(3, 1);
        s.select(2, 0, 0, 0, 2, 1);
        Check.due("turned", s.reselect(0, 0), 3);
        Check.dueSelected("turned", s, 32, 32, 255);
    }

    private static void grownAndShrunk() {
        PictureStudio s = Check.studio(5, 2);
        s.select(2, 0, 0, 0, 2, 1);
        Check.due("grown by 1", s.reselect(1, 1), 6);
        Check.dueSelected("grown by 1", s, 223, 223, 223, 0, 0, 223, 223, 223, 0, 0);
        Check.due("grown by 8", s.reselect(1, 8), 10);
        PictureStudio q = Check.studio(5, 5);
        Check.due("shrunk: places outside are 0", q.reselect(2, 1), 9);
        Check.due("a corner", q.selected(0, 0), 0);
        Check.due("what is left", q.selected(1, 1), 255);
        Check.due("grown again", q.reselect(1, 1), 25);
        Check.due("shrunk by 2", q.reselect(2, 2), 1);
        Check.due("the middle", q.selected(2, 2), 255);
        Check.due("grown by 1", q.reselect(1, 1), 9);
        q.select(0, 0, 0, 0, 0, 0);
        Check.due("shrunk by 8", q.reselect(2, 8), 0);
    }

    private static void softened() {
        PictureStudio s = Check.studio(5, 1);
        s.select(1, 0, 0, 0, 1, 1);
        // once: 170 85 0 0 0; twice: (170 2 + 85) / 3, (170 + 85) / 3, 85 / 3
        Check.due("softened", s.reselect(3, 1), 3);
        Check.dueSelected("softened", s, 142, 85, 28, 0, 0);
        PictureStudio q = Check.studio(3, 3);
        q.select(1, 0, 1, 1, 1, 1);
        Check.due("softened", q.reselect(3, 1), 9);
        // once: 28 (255 + 4) / 9 everywhere; so twice
        Check.dueSelected("softened", q, 28, 28, 28, 28, 28, 28, 28, 28, 28);
        q.select(0, 0, 0, 0, 0, 0);
        Check.due("all 255 stays", q.reselect(3, 8), 9);
        Check.due("all 255 stays", q.selected(0, 2), 255);
    }
}
