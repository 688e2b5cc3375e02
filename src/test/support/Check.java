import java.io.IOException;
import java.nio.file.Files;
import java.nio.file.Path;
import java.util.NoSuchElementException;
import java.util.function.Supplier;

/** What the project's tests share: answers that are due, exceptions that are due, and small pictures. */
final class Check {
    interface Call {
        void run();
    }

    interface Setting {
        void give(int v);
    }

    private static int asked;
    private static int wrong;
    private static String document = "";
    /** The sentence of the document whose test is running. */
    private static String sentence = "";

    private Check() {
    }

    /**
     * The test of a sentence: its words stand here as in the document, so that each test can be held against what it is
     * for; what is wrong in the test is told with them.
     */
    static void sentence(String words, Call test) {
        sentence = words;
        due("the document has these words", document().contains(words) ? 1 : 0, 1);
        try {
            test.run();
        } catch (RuntimeException e) {
            asked++;
            tell("it ended with " + e + " at " + e.getStackTrace()[0]);
        }
        sentence = "";
    }

    private static String document() {
        if (document.isEmpty()) {
            try {
                Path path = Path.of(System.getProperty("root", "."), "../shared/DOC.md");
                document = Files.readString(path).replaceAll("\\s+", " ");
            } catch (IOException e) {
                document = "it can't be read";
            }
        }
        return document;
    }

    private static void tell(String what) {
        wrong++;
        System.out.println(sentence.isEmpty() ? what : "«" + sentence + "»: " + what);
    }

    static void due(String what, long got, long want) {
        asked++;
        if (got != want) {
            tell(what + " answered " + got + ", due is " + want);
        }
    }

    /** COLOURS are easier to read as eight digits: A, R, G, B. */
    static void dueColour(String what, int got, int want) {
        asked++;
        if (got != want) {
            tell(String.format("%s answered %08X, due is %08X", what, got, want));
        }
    }

    static void bad(String what, Call call) {
        throwing(what, IllegalArgumentException.class, call);
    }

    static void missing(String what, Call call) {
        throwing(what, NoSuchElementException.class, call);
    }

    static void refused(String what, Call call) {
        throwing(what, IllegalStateException.class, call);
    }

    static void full(String what, Call call) {
        throwing(what, IndexOutOfBoundsException.class, call);
    }

    static void faulty(String what, PictureStudio s, Call call, int sort, int place) {
        throwing(what, UnsupportedOperationException.class, call);
        due(what + ": the FAULT", s.fault(0), sort);
        due(what + ": its place", s.fault(1), place);
    }

    /** Just this class: what the machine throws is often a class below it. */
    private static void throwing(String what, Class<?> want, Call call) {
        asked++;
        Class<?> got = null;
        try {
            call.run();
        } catch (RuntimeException e) {
            got = e.getClass();
        }
        if (got != want) {
            tell(what + " threw " + name(got) + ", due is " + name(want));
        }
    }

    private static String name(Class<?> thrown) {
        return thrown == null ? "nothing" : thrown.getName();
    }

    /** A call that must not throw. */
    static void taken(String what, Call call) {
        throwing(what, null, call);
    }

    /** The ends of a range: they are taken, and what lies just beyond them, or far, is bad. */
    static void ends(String what, int least, int greatest, Setting call) {
        for (int v : new int[] {least, greatest}) {
            taken(what + " " + v, () -> call.give(v));
        }
        for (int v : new int[] {least - 1, greatest + 1, Integer.MIN_VALUE, Integer.MAX_VALUE}) {
            bad(what + " " + v, () -> call.give(v));
        }
    }

    /** All that can be asked of a studio without a change, for small DOCUMENTS with few LAYERS. */
    static String state(PictureStudio s) {
        StringBuilder all = new StringBuilder();
        for (int what = 0; what < 10; what++) {
            all.append(s.count(what)).append(' ');
        }
        all.append("fault ").append(s.fault(0)).append(' ').append(s.fault(1)).append(" hash ").append(s.hash());
        long octets = s.octets(-1);
        all.append(" octets ").append(octets);
        for (int i = 0; i < octets; i += 8) {
            all.append(' ').append(Long.toHexString(s.octets(i)));
        }
        all.append(" selected");
        for (int i = 0; i < s.count(0) * s.count(1); i++) {
            all.append(' ').append(s.selected(i % s.count(0), i / s.count(0)));
        }
        return all.append(layers(s)).toString();
    }

    /** All LAYERS with all that is theirs. */
    static String layers(PictureStudio s) {
        StringBuilder all = new StringBuilder();
        int w = s.count(0);
        int h = s.count(1);
        int many = s.count(2);
        for (int l = 0; l < 30 && many > 0; l++) {
            try {
                int kind = s.about(l, 0);
                many--;
                all.append(" LAYER ").append(l).append(':').append(kind);
                for (int what = 1; what < 16; what++) {
                    all.append(' ').append(s.about(l, what));
                }
                boolean masked = s.masked(l, 0, 0) >= 0;
                for (int i = 0; i < w * h && (kind == 0 || masked); i++) {
                    all.append(' ').append(kind == 0 ? s.pixel(l, i % w, i / w) : 0).append('/')
                        .append(masked ? s.masked(l, i % w, i / w) : -1);
                }
            } catch (NoSuchElementException e) {
                all.append(" no LAYER ").append(l);
            }
        }
        return all.toString();
    }

    static void dueText(String what, String got, String want) {
        asked++;
        if (!got.equals(want)) {
            tell(what + " answered " + got + ", due is " + want);
        }
    }

    /** A call that throws just this class and leaves all that can be asked as it was. */
    static void unchanged(String what, PictureStudio s, Class<?> thrown, Call call) {
        String before = state(s);
        throwing(what, thrown, call);
        dueText(what + ": the state behind it", state(s), before);
    }

    /** Colours of a LAYER (-1: of what is seen) of studios made by the same calls: none is asked too often. */
    static int[] colours(Supplier<PictureStudio> made, int l) {
        PictureStudio s = made.get();
        int w = s.count(0);
        int[] all = new int[w * s.count(1)];
        for (int i = 0; i < all.length; i++) {
            if (i % 300 == 299) {
                s = made.get();
            }
            all[i] = l < 0 ? s.see(i % w, i / w) : s.pixel(l, i % w, i / w);
        }
        return all;
    }

    /** hash() of a picture. */
    static int hash(int... colours) {
        int h = 0;
        for (int c : colours) {
            h = 31 * h + c;
        }
        return h;
    }

    /** A new LAYER of PIXELS with these COLOURS. */
    static int picture(PictureStudio s, int... colours) {
        int w = s.count(0);
        feedBytes(s, PngFile.picture(w, s.count(1), colours));
        return s.png();
    }

    static PictureStudio studio(int w, int h) {
        PictureStudio s = new PictureStudio();
        s.open(w, h);
        return s;
    }

    /** A studio with one LAYER of PIXELS, number 0. */
    static PictureStudio canvas(int w, int h) {
        PictureStudio s = studio(w, h);
        s.layer(0, -1, 0);
        return s;
    }

    /** Gives one pixel of PIXELS (that aren't shifted) a COLOUR; two EDITS at most, the SELECTION is all 255 behind it. */
    static void dot(PictureStudio s, int l, int x, int y, int colour) {
        s.front(colour);
        s.select(1, 0, x, y, 1, 1);
        s.fill(l, 2);
        s.select(0, 0, 0, 0, 0, 0);
    }

    /** Fills PIXELS row by row. */
    static void paint(PictureStudio s, int l, int... colours) {
        int w = s.count(0);
        for (int i = 0; i < colours.length; i++) {
            dot(s, l, i % w, i / w, colours[i]);
        }
    }

    static void duePixels(String what, PictureStudio s, int l, int... colours) {
        int w = s.count(0);
        for (int i = 0; i < colours.length; i++) {
            dueColour(what + " at " + i % w + ", " + i / w, s.pixel(l, i % w, i / w), colours[i]);
        }
    }

    static void dueSelected(String what, PictureStudio s, int... values) {
        int w = s.count(0);
        for (int i = 0; i < values.length; i++) {
            due(what + " at " + i % w + ", " + i / w, s.selected(i % w, i / w), values[i]);
        }
    }

    /** Four STEPS more of a PATH: a box, from one corner over the right to the other. */
    static void box(PictureStudio s, int p, int x0, int y0, int x1, int y1) {
        s.step(p, 0, x0, y0);
        s.step(p, 1, x1, y0);
        s.step(p, 1, x1, y1);
        s.step(p, 1, x0, y1);
    }

    static int grey(int v) {
        return 0xFF000000 | v << 16 | v << 8 | v;
    }

    static void feedBytes(PictureStudio s, byte... bytes) {
        s.end(0);
        for (int i = 0; i < bytes.length; i += 20) {
            s.feed(four(bytes, i), four(bytes, i + 4), four(bytes, i + 8), four(bytes, i + 12), four(bytes, i + 16));
        }
        s.end(bytes.length);
    }

    private static int four(byte[] bytes, int at) {
        int all = 0;
        for (int i = at; i < at + 4; i++) {
            all = all << 8 | (i < bytes.length ? bytes[i] & 255 : 0);
        }
        return all;
    }

    /** Ends a test: says how many answers were asked for, with exit code 1 if one was wrong. */
    static void done(String test) {
        System.out.println(test + ": " + asked + " answers, " + wrong + " not as due");
        if (wrong > 0) {
            System.exit(1);
        }
    }
}
