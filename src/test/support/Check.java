import java.util.NoSuchElementException;

/** What the project's tests share: answers that are due, exceptions that are due, and small pictures. */
final class Check {
    interface Call {
        void run();
    }

    private static int asked;
    private static int wrong;

    private Check() {
    }

    static void due(String what, long got, long want) {
        asked++;
        if (got != want) {
            wrong++;
            System.out.println(what + " answered " + got + ", due is " + want);
        }
    }

    /** COLOURS are easier to read as eight digits: A, R, G, B. */
    static void dueColour(String what, int got, int want) {
        asked++;
        if (got != want) {
            wrong++;
            System.out.println(String.format("%s answered %08X, due is %08X", what, got, want));
        }
    }

    static void bad(String what, Call call) {
        throwing(what, IllegalArgumentException.class, call);
    }

    static void missing(String what, Call call) {
        throwing(what, NoSuchElementException.class, call);
    }

    static void refused(String what, Call call) {
        throwing(what, IllegalStateException.class, call);
    }

    static void full(String what, Call call) {
        throwing(what, IndexOutOfBoundsException.class, call);
    }

    static void faulty(String what, PictureStudio s, Call call, int sort, int place) {
        throwing(what, UnsupportedOperationException.class, call);
        due(what + ": the FAULT", s.fault(0), sort);
        due(what + ": its place", s.fault(1), place);
    }

    /** Just this class: what the machine throws is often a class below it. */
    private static void throwing(String what, Class<?> want, Call call) {
        asked++;
        Class<?> got = null;
        try {
            call.run();
        } catch (RuntimeException e) {
            got = e.getClass();
        }
        if (got != want) {
            wrong++;
            System.out.println(what + " threw " + (got == null ? "nothing" : got.getName()) + ", due is " + want.getName());
        }
    }

    static PictureStudio studio(int w, int h) {
        PictureStudio s = new PictureStudio();
        s.open(w, h);
        return s;
    }

    /** A studio with one LAYER of PIXELS, number 0. */
    static PictureStudio canvas(int w, int h) {
        PictureStudio s = studio(w, h);
        s.layer(0, -1, 0);
        return s;
    }

    /** Gives one pixel of PIXELS (that aren't shifted) a COLOUR; two EDITS at most, the SELECTION is all 255 behind it. */
    static void dot(PictureStudio s, int l, int x, int y, int colour) {
        s.front(colour);
        s.select(1, 0, x, y, 1, 1);
        s.fill(l, 2);
        s.select(0, 0, 0, 0, 0, 0);
    }

    /** Fills PIXELS row by row. */
    static void paint(PictureStudio s, int l, int... colours) {
        int w = s.count(0);
        for (int i = 0; i < colours.length; i++) {
            dot(s, l, i % w, i / w, colours[i]);
        }
    }

    static void duePixels(String what, PictureStudio s, int l, int... colours) {
        int w = s.count(0);
        for (int i = 0; i < colours.length; i++) {
            dueColour(what + " at " + i % w + ", " + i / w, s.pixel(l, i % w, i / w), colours[i]);
        }
    }

    static void dueSelected(String what, PictureStudio s, int... values) {
        int w = s.count(0);
        for (int i = 0; i < values.length; i++) {
            due(what + " at " + i % w + ", " + i / w, s.selected(i % w, i / w), values[i]);
        }
    }

    static int grey(int v) {
        return 0xFF000000 | v << 16 | v << 8 | v;
    }

    static void feedBytes(PictureStudio s, byte... bytes) {
        s.end(0);
        for (int i = 0; i < bytes.length; i += 20) {
            s.feed(four(bytes, i), four(bytes, i + 4), four(bytes, i + 8), four(bytes, i + 12), four(bytes, i + 16));
        }
        s.end(bytes.length);
    }

    private static int four(byte[] bytes, int at) {
        int all = 0;
        for (int i = at; i < at + 4; i++) {
            all = all << 8 | (i < bytes.length ? bytes[i] & 255 : 0);
        }
        return all;
    }

    /** Ends a test: says how many answers were asked for, with exit code 1 if one was wrong. */
    static void done(String test) {
        System.out.println(test + ": " + asked + " answers, " + wrong + " not as due");
        if (wrong > 0) {
            System.exit(1);
        }
    }
}
