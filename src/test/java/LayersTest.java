/** Promises 1 (a new object), 5 to 9 (the tree), 44 (about), 47, 48 (HISTORY) and 49 (count). */
public final class LayersTest {
    public static void main(String[] args) {
        newObject();
        open();
        layer();
        drop();
        move();
        set();
        about();
        undoAndRedo();
        historyHasAnEnd();
        numbersAreGivenAgain();
        whatIsNoLayerStays();
        count();
        Check.done("LayersTest");
    }

    private static void newObject() {
        PictureStudio s = new PictureStudio();
        int[] counts = {8, 8, 0, 0, 0, 0, 0, 0, 0, 0};
        for (int i = 0; i < counts.length; i++) {
            Check.due("count(" + i + ") of a new object", s.count(i), counts[i]);
        }
        Check.due("octets(-1) of a new object", s.octets(-1), 0);
        Check.due("hash() of a new object", s.hash(), 0);
        Check.dueColour("see of a new object", s.see(7, 7), 0);
        Check.missing("see beyond it", () -> s.see(8, 7));
        Check.due("selected of a new object", s.selected(7, 7), 255);
        Check.missing("no LAYERS", () -> s.drop(0));
        Check.due("the first LAYER", s.layer(0, -1, 0), 0);
        s.point(16, 18, 255);
        Check.due("the BRUSH at first: a radius of two pixels, hard", s.stroke(0, 0), 16);
        Check.dueColour("FRONT at first", s.pixel(0, 4, 4), 0xFF000000);
        s.undo();
        s.point(-10, 2, 255);
        s.point(14, 2, 255);
        Check.due("spacing at first: the last DAB is at the end of 24 quarters", s.stroke(0, 0), 15);
    }

    private static void open() {
        PictureStudio s = Check.canvas(3, 5);
        s.select(1, 0, 0, 0, 1, 1);
        s.see(0, 0);
        Check.bad("width 0", () -> s.open(0, 1));
        Check.bad("width 25", () -> s.open(25, 1));
        Check.bad("height 0", () -> s.open(1, 0));
        Check.bad("height 25", () -> s.open(1, 25));
        Check.due("a bad open leaves the DOCUMENT", s.count(1), 5);
        Check.due("and its TILES", s.count(6), 1);
        s.set(0, 0, 1);
        s.undo();
        s.open(24, 1);
        Check.due("W", s.count(0), 24);
        Check.due("H", s.count(1), 1);
        Check.due("no LAYERS", s.count(2), 0);
        Check.due("nothing to be undone", s.count(3), 0);
        Check.due("nor done again", s.count(4), 0);
        Check.refused("undo behind open", () -> s.undo());
        Check.refused("redo behind open", () -> s.redo());
        Check.due("no TILE is KEPT", s.count(6), 0);
        Check.due("TILES worked out so far stay", s.count(5), 1);
        Check.due("the SELECTION is all 255", s.reselect(0, 0), 0);
        Check.due("numbers begin again", s.layer(1, -1, 0), 0);
        s.open(1, 24);
        s.layer(0, -1, 0);
        Check.due("all of it", s.fill(0, 0), 24);
    }

    private static void layer() {
        PictureStudio s = Check.studio(2, 2);
        Check.bad("KIND -1", () -> s.layer(-1, -1, 0));
        Check.bad("KIND 6", () -> s.layer(6, -1, 0));
        Check.bad("place -1", () -> s.layer(0, -1, -1));
        Check.bad("place 1 of none", () -> s.layer(0, -1, 1));
        Check.missing("PARENT -2", () -> s.layer(0, -2, 0));
        Check.missing("PARENT 0 that isn't there", () -> s.layer(0, 0, 0));
        Check.missing("a place in a PARENT that isn't there isn't looked at", () -> s.layer(0, 30, -5));
        Check.bad("a bad KIND comes ahead of missing", () -> s.layer(6, 30, 0));
        Check.due("a GROUP", s.layer(1, -1, 0), 0);
        Check.due("PIXELS in it", s.layer(0, 0, 0), 1);
        Check.due("a FILL below these", s.layer(2, 0, 0), 2);
        Check.due("a RAMP above them", s.layer(3, 0, 2), 3);
        Check.due("a CURVED between them", s.layer(4, 0, 1), 4);
        Check.due("a LIVE in the DOCUMENT", s.layer(5, -1, 0), 5);
        Check.missing("PIXELS are no PARENT", () -> s.layer(0, 1, 0));
        int[] places = {1, 2, 0, 3, 1, 0};
        for (int l = 0; l < places.length; l++) {
            Check.due("the place of " + l, s.about(l, 2), places[l]);
        }
        Check.due("count(2)", s.count(2), 6);
        Check.due("count(3)", s.count(3), 6);
        s.drop(5);
        for (int n = 6; n < 30; n++) {
            Check.due("LAYER " + n, s.layer(2, -1, 0), n);
        }
        Check.full("the 31st LAYER, though one was dropped", () -> s.layer(2, -1, 0));
        Check.bad("bad comes ahead of FULL", () -> s.layer(2, -1, 99));
        Check.missing("missing comes ahead of FULL", () -> s.layer(2, 5, 0));
    }

    private static void drop() {
        PictureStudio s = Check.studio(2, 2);
        s.layer(1, -1, 0);
        s.layer(1, 0, 0);
        s.layer(2, 1, 0);
        s.layer(2, -1, 1);
        s.layer(2, -1, 0);
        s.colours(2, -1, 0);
        Check.missing("drop(-1)", () -> s.drop(-1));
        Check.missing("drop(5)", () -> s.drop(5));
        Check.missing("drop(30)", () -> s.drop(30));
        s.drop(0);
        Check.due("with all IN it", s.count(2), 2);
        Check.missing("what was IN it", () -> s.about(2, 0));
        Check.due("the others come nearer", s.about(3, 2), 1);
        Check.due("the lowest stays", s.about(4, 2), 0);
        Check.due("nothing is seen any more", s.hash(), 0);
        Check.missing("drop again", () -> s.drop(0));
        s.undo();
        Check.due("all are there again", s.count(2), 5);
        Check.dueColour("and seen", s.see(0, 0), -1);
    }

    private static void move() {
        PictureStudio s = Check.studio(2, 2);
        s.layer(1, -1, 0);
        s.layer(1, 0, 0);
        s.layer(2, -1, 1);
        s.layer(2, -1, 2);
        Check.missing("a LAYER that isn't there", () -> s.move(4, -1, 0));
        Check.missing("a PARENT that isn't there", () -> s.move(2, 4, 0));
        Check.missing("a PARENT that is no GROUP", () -> s.move(3, 2, 0));
        Check.missing("a FILL into itself: it is no GROUP", () -> s.move(2, 2, 0));
        Check.missing("its places aren't looked at then", () -> s.move(2, 4, -1));
        Check.bad("place -1", () -> s.move(2, -1, -1));
        Check.bad("a place beyond those without it", () -> s.move(2, -1, 3));
        Check.bad("a place beyond those of another PARENT", () -> s.move(2, 0, 2));
        Check.refused("into itself", () -> s.move(0, 0, 0));
        Check.refused("into one IN it", () -> s.move(0, 1, 0));
        Check.bad("bad comes ahead of REFUSED", () -> s.move(0, 1, 1));
        s.move(2, -1, 2);
        Check.due("to the top", s.about(2, 2), 2);
        Check.due("that below it", s.about(3, 2), 1);
        s.move(2, 0, 1);
        Check.due("its PARENT", s.about(2, 1), 0);
        Check.due("its place there", s.about(2, 2), 1);
        Check.due("those IN the GROUP", s.about(0, 9), 2);
        s.move(2, 0, 0);
        Check.due("within the GROUP", s.about(1, 2), 1);
        s.move(1, -1, 0);
        Check.due("out of it", s.about(1, 1), -1);
        Check.due("the lowest then", s.about(0, 2), 1);
        s.move(0, 1, 0);
        Check.due("a GROUP with what is IN it", s.about(2, 1), 0);
        Check.refused("now the other way round", () -> s.move(1, 0, 0));
        Check.due("how many EDITS", s.count(3), 9);
    }

    private static void set() {
        PictureStudio s = Check.studio(1, 1);
        s.layer(4, -1, 0);
        int[][] ranges = {{0, 255}, {0, 15}, {0, 1}, {0, 1}, {-64, 64}, {-64, 64}};
        for (int i = 0; i < ranges.length; i++) {
            int what = i;
            int least = ranges[i][0];
            int most = ranges[i][1];
            Check.bad("set " + what + " below", () -> s.set(0, what, least - 1));
            Check.bad("set " + what + " above", () -> s.set(0, what, most + 1));
            Check.bad("bad comes ahead of missing", () -> s.set(1, what, most + 1));
            s.set(0, what, most);
            Check.due("the greatest of " + what, s.about(0, 3 + what), most);
            s.set(0, what, least);
            Check.due("the least of " + what, s.about(0, 3 + what), least);
        }
        Check.bad("what -1", () -> s.set(0, -1, 0));
        Check.bad("what 6", () -> s.set(0, 6, 0));
        Check.missing("a LAYER that isn't there", () -> s.set(1, 0, 0));
        Check.due("each is an EDIT", s.count(3), 13);
    }

    private static void about() {
        PictureStudio s = Check.studio(1, 1);
        for (int kind = 0; kind < 6; kind++) {
            s.layer(kind, -1, kind);
            int[] due = {kind, -1, kind, 255, 0, 1, 0, 0, 0, 0, kind == 5 ? 8 : 0, 0, 0, 0, 0, 0};
            for (int what = 0; what < 16; what++) {
                Check.due("about(" + kind + ", " + what + ")", s.about(kind, what), due[what]);
            }
        }
        s.colours(2, 7, 8);
        s.colours(3, 9, -10);
        s.colours(4, 5, 6);
        s.colours(5, 13, 12);
        s.ramp(3, -100, 100, 99, -99);
        int[][] dues = {{2, 10, 7}, {2, 11, 0}, {3, 10, 9}, {3, 11, -10}, {4, 10, 5}, {4, 11, 0}, {5, 10, 13}, {5, 11, 12},
            {3, 12, -100}, {3, 13, 100}, {3, 14, 99}, {3, 15, -99}};
        for (int[] due : dues) {
            Check.due("about(" + due[0] + ", " + due[1] + ")", s.about(due[0], due[1]), due[2]);
        }
        s.flat(3);
        for (int what = 10; what < 16; what++) {
            Check.due("about(3, " + what + ") when it is PIXELS", s.about(3, what), 0);
        }
        Check.bad("what -1", () -> s.about(0, -1));
        Check.bad("what 16", () -> s.about(0, 16));
        Check.bad("bad comes ahead of missing", () -> s.about(6, 16));
        Check.missing("a LAYER that isn't there", () -> s.about(6, 0));
    }

    private static void undoAndRedo() {
        PictureStudio s = Check.canvas(2, 1);
        Check.dot(s, 0, 0, 0, 0xFF112233);
        s.mask(0, 3);
        s.set(0, 0, 100);
        Check.due("undo", s.undo(), 3);
        Check.due("opacity as before", s.about(0, 3), 255);
        Check.due("undo", s.undo(), 2);
        Check.due("no MASK as before", s.masked(0, 0, 0), -1);
        Check.due("undo", s.undo(), 1);
        Check.dueColour("pixels as before", s.pixel(0, 0, 0), 0);
        Check.due("redo", s.redo(), 2);
        Check.dueColour("pixels as behind it", s.pixel(0, 0, 0), 0xFF112233);
        Check.due("redo", s.redo(), 3);
        Check.due("redo", s.redo(), 4);
        Check.due("opacity as behind it", s.about(0, 3), 100);
        Check.refused("none undone", () -> s.redo());
        s.undo();
        s.undo();
        s.redo();
        s.undo();
        Check.due("undone behind being done again", s.masked(0, 0, 0), -1);
        Check.dueColour("and no more than that", s.pixel(0, 0, 0), 0xFF112233);
        s.redo();
        s.redo();
        s.undo();
        s.set(0, 1, 1);
        Check.refused("a new EDIT drops those undone", () -> s.redo());
        Check.due("count(4)", s.count(4), 0);
        s.see(0, 0);
        s.undo();
        Check.due("undo keeps no TILE", s.count(6), 0);
        s.see(0, 0);
        s.redo();
        Check.due("redo keeps no TILE", s.count(6), 0);
    }

    private static void historyHasAnEnd() {
        PictureStudio s = Check.canvas(1, 1);
        for (int i = 1; i <= 30; i++) {
            s.set(0, 0, i);
            Check.due("EDITS that can be undone", s.count(3), Math.min(24, i + 1));
        }
        for (int i = 23; i >= 0; i--) {
            Check.due("undo", s.undo(), i);
        }
        Check.refused("the oldest are gone", () -> s.undo());
        Check.due("as the 24th last EDIT found it", s.about(0, 3), 6);
        Check.due("all can be done again", s.count(4), 24);
        for (int i = 1; i <= 24; i++) {
            Check.due("redo", s.redo(), i);
        }
        Check.due("as the last EDIT left it", s.about(0, 3), 30);
    }

    private static void numbersAreGivenAgain() {
        PictureStudio s = Check.studio(1, 1);
        s.layer(0, -1, 0);
        s.layer(0, -1, 0);
        s.undo();
        Check.due("the number of an undone LAYER", s.layer(2, -1, 0), 1);
        Check.due("it is another KIND now", s.about(1, 0), 2);
        s.drop(1);
        Check.due("a dropped one's isn't given again", s.layer(0, -1, 0), 2);
    }

    private static void whatIsNoLayerStays() {
        PictureStudio s = Check.canvas(2, 1);
        s.select(1, 0, 0, 0, 1, 1);
        s.fill(0, 0);
        s.point(0, 0, 255);
        s.stroke(0, 1);
        s.undo();
        Check.due("POINTS that a stroke took stay away", s.count(7), 0);
        s.undo();
        Check.due("the SELECTION stays", s.selected(1, 0), 0);
    }

    private static void count() {
        PictureStudio s = Check.studio(24, 9);
        s.layer(5, -1, 0);
        s.layer(5, -1, 0);
        s.layer(5, -1, 0);
        s.colours(0, 0, 4);
        s.colours(1, 5, 8);
        s.colours(2, 10, 0);
        s.set(2, 2, 0);
        s.see(0, 0);
        s.see(7, 7);
        s.see(23, 8);
        s.point(0, 0, 0);
        s.undo();
        s.see(0, 0);
        int[] due = {24, 9, 3, 6, 1, 3, 1, 1, 0, 12};
        for (int i = 0; i < due.length; i++) {
            Check.due("count(" + i + ")", s.count(i), due[i]);
        }
        Check.due("count(10)", s.count(10), -1);
        Check.due("count(-1)", s.count(-1), -1);
        int[] reach = {3, 1, 1, 1, 1, 5, 0, 0, 0, 0, 1, 0, 0, 0};
        int[] amount = {3, 9, 0, 0, 0, 6, 9, 9, 0, 9, 0, 0, 9, 9};
        s.drop(1);
        s.drop(2);
        for (int f = 0; f < 14; f++) {
            s.colours(0, f, amount[f]);
            Check.due("REACH of FILTER " + f, s.count(9), reach[f]);
        }
    }
}
