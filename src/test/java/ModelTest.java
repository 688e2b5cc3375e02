import java.lang.reflect.InvocationTargetException;
import java.lang.reflect.Method;
import java.lang.reflect.Modifier;
import java.util.ArrayList;
import java.util.Arrays;
import java.util.HashMap;
import java.util.List;
import java.util.Map;
import java.util.Random;
import java.util.zip.Deflater;

/**
 * Runs of calls, drawn so that they come far (and now and then wrong ones), asked of the program and of Model: every answer
 * must be the same. A run ends at its first difference, or at the 512 calls that are promised.
 */
public final class ModelTest {
    private static final int RUNS = 800;
    private static final int CALLS = 512;
    private static final int[] WILD = {Integer.MIN_VALUE, -2001, -101, -65, -1, 0, 1, 2, 7, 8, 15, 24, 25, 30, 64, 100, 101, 255,
        256, 801, 1025, 2001, 4096, 4097, 8001, Integer.MAX_VALUE};
    private static final Map<String, Method> STUDIO = calls(PictureStudio.class);
    private static final Map<String, Method> MODEL = calls(Model.class);

    private final int seed;
    private final Random r;
    private final PictureStudio studio = new PictureStudio();
    private final Model model = new Model();
    private final List<String> asked = new ArrayList<>();
    private boolean same = true;

    private ModelTest(int seed) {
        this.seed = seed;
        r = new Random(seed);
    }

    public static void main(String[] args) {
        for (int seed = 0; seed < RUNS; seed++) {
            new ModelTest(seed).run();
        }
        Check.done("ModelTest");
    }

    /** The calls of the face, by their names. */
    private static Map<String, Method> calls(Class<?> of) {
        Map<String, Method> all = new HashMap<>();
        for (Method call : PictureStudio.class.getDeclaredMethods()) {
            try {
                if (Modifier.isPublic(call.getModifiers())) {
                    all.put(call.getName(), of.getDeclaredMethod(call.getName(), call.getParameterTypes()));
                }
            } catch (NoSuchMethodException e) {
                throw new IllegalStateException(call.getName(), e);
            }
        }
        return all;
    }

    private static String answer(Object of, Method call, Object[] with) {
        try {
            return String.valueOf(call.invoke(of, with));
        } catch (InvocationTargetException e) {
            return e.getCause().getClass().getName();
        } catch (IllegalAccessException e) {
            throw new IllegalStateException(e);
        }
    }

    private void ask(String name, Object... with) {
        if (!same || asked.size() >= CALLS) {
            return;
        }
        asked.add(name + Arrays.toString(with));
        String due = answer(model, MODEL.get(name), with);
        String got = answer(studio, STUDIO.get(name), with);
        same = got.equals(due);
        List<String> latest = same ? List.of() : asked.subList(Math.max(0, asked.size() - 12), asked.size());
        Check.dueText(same ? name : "seed " + seed + ", call " + asked.size() + ", behind " + latest, got, due);
    }

    private void run() {
        if (r.nextInt(5) > 0) {
            int most = r.nextInt(5) == 0 ? 24 : 11;
            int side = in(1, most);
            ask("open", side, r.nextInt(4) == 0 ? side : in(1, most));
        }
        for (int k = r.nextInt(15) == 0 ? 31 : 0; k > 0; k--) {
            newLayer();
        }
        int calls = in(300, 480);
        while (same && asked.size() < calls) {
            next();
        }
        while (same && asked.size() < CALLS) {
            look();
        }
    }

    // ---- Numbers

    private int in(int least, int most) {
        return least + r.nextInt(most - least + 1);
    }

    private boolean rarely() {
        return r.nextInt(30) == 0;
    }

    /** Most often within a range, often at one of its ends, now and then beyond it. */
    private int number(int least, int most) {
        if (rarely()) {
            return r.nextInt(3) == 0 ? WILD[r.nextInt(WILD.length)] : r.nextBoolean() ? least - 1 : most + 1;
        }
        return r.nextInt(8) == 0 ? r.nextBoolean() ? least : most : in(least, most);
    }

    private int sample() {
        return r.nextInt(3) == 0 ? new int[] {0, 1, 127, 128, 254, 255}[r.nextInt(6)] : r.nextInt(256);
    }

    private int colour() {
        int a = r.nextInt(2) == 0 ? 255 : sample();
        return r.nextInt(12) == 0 ? 0 : Told.colour(a, sample(), sample(), sample());
    }

    /** A LAYER of these KINDS, if there is one. */
    private int layerOf(int least, int most) {
        List<Integer> all = model.layersOf(least, most);
        return all.isEmpty() || rarely() ? in(-2, 31) : all.get(r.nextInt(all.size()));
    }

    private int pixels() {
        return layerOf(0, 0);
    }

    private int anyLayer() {
        return layerOf(0, 5);
    }

    private int parent() {
        List<Integer> groups = model.layersOf(1, 1);
        int which = r.nextInt(groups.size() + 1);
        return rarely() ? in(-2, 31) : which == 0 ? -1 : groups.get(which - 1);
    }

    private int x() {
        return number(0, model.width() - 1);
    }

    private int y() {
        return number(0, model.height() - 1);
    }

    // ---- Calls

    private void next() {
        if (model.layersOf(0, 5).size() < 3 && r.nextInt(3) == 0) {
            newLayer();
            return;
        }
        switch (r.nextInt(18)) {
            case 0: newLayer(); break;
            case 1: case 2: case 3: tree(); break;
            case 4: case 5: setting(); break;
            case 6: case 7: paint(); break;
            case 8: case 9: case 10: case 11: change(pixels()); break;
            case 12: figure(); break;
            case 13: input(); break;
            case 14: case 15: selection(); break;
            case 16: history(); break;
            default: break;
        }
        ask("see", x(), y());
        if (r.nextBoolean()) {
            ask("hash");
        }
    }

    private void newLayer() {
        int parent = parent();
        int number = model.nextNumber();
        int kind = number(0, 5);
        ask("layer", kind, parent, number(0, model.among(parent)));
        switch (kind) {
            case 0: varied(number); break;
            case 2: ask("colours", number, colour(), r.nextInt()); break;
            case 3:
                ask("colours", number, colour(), colour());
                ask("ramp", number, in(-5, 25), in(-5, 25), in(-5, 25), in(-5, 25));
                break;
            case 4: ask("colours", number, number(0, 7), r.nextInt(9)); break;
            case 5: live(number); break;
            default: break;
        }
    }

    private void live(int l) {
        int kind = number(0, 13);
        ask("colours", l, kind, number(Model.leastAmount(kind), Model.greatestAmount(kind)));
    }

    /** Boxes and ellipses of different COLOURS. */
    private void varied(int l) {
        for (int k = in(0, 3); k > 0; k--) {
            ask("select", in(1, 2), 0, in(-3, model.width()), in(-3, model.height()), in(1, 12), in(1, 12));
            ask("front", colour());
            ask("fill", l, r.nextInt(3) == 0 ? 0 : 2);
        }
        ask("select", 0, 0, 0, 0, 0, 0);
    }

    private void tree() {
        int parent = parent();
        switch (r.nextInt(8)) {
            case 0: ask("move", anyLayer(), parent, number(0, model.among(parent))); break;
            case 1: ask(r.nextInt(3) == 0 ? "drop" : "flat", anyLayer()); break;
            case 2: ask("merge", anyLayer()); break;
            case 3: ask("mask", anyLayer(), number(0, 3)); break;
            case 4: ask("set", anyLayer(), 0, number(0, 255)); break;
            case 5: ask("set", anyLayer(), 1, number(0, 15)); break;
            case 6: ask("set", anyLayer(), in(2, 3), number(0, 1)); break;
            default: ask("set", anyLayer(), rarely() ? number(0, 5) : in(4, 5), rarely() ? number(-64, 64) : in(-9, 9)); break;
        }
    }

    private void setting() {
        int l = layerOf(2, 5);
        int i = number(0, 10);
        switch (r.nextInt(7)) {
            case 0: case 1:
                if (model.kindOf(l) == 5) {
                    live(l);
                } else {
                    ask("colours", l, model.kindOf(l) == 4 ? number(0, 7) : colour(), colour());
                }
                break;
            case 2: ask("ramp", layerOf(3, 3), number(-100, 100), in(-9, 30), in(-9, 30), number(-100, 100)); break;
            case 3:
                for (int k = in(1, 9); k > 0; k--) {
                    ask("curve", rarely() ? number(0, 7) : 0, rarely() ? number(0, 3) : seed % 4, number(0, 255), number(0, 255));
                }
                break;
            case 4: ask("curve", number(0, 7), number(0, 3), number(-1, 255), number(0, 255)); break;
            case 5: ask("kernel", i, i == 9 ? number(1, 1000) : i == 10 ? number(-255, 255) : number(-100, 100)); break;
            default: ask("front", colour()); break;
        }
    }

    private void paint() {
        if (r.nextInt(3) == 0) {
            ask("front", colour());
            ask("fill", pixels(), number(0, 2));
            return;
        }
        ask("brush", number(1, 64), number(0, 255), number(2, 64), number(0, 255), number(0, 255));
        if (r.nextInt(3) == 0) {
            ask("source", rarely() ? number(-100, 100) : in(-6, 6), rarely() ? number(-100, 100) : in(-6, 6));
        }
        for (int k = r.nextInt(12) == 0 ? 22 : r.nextInt(5); k > 0; k--) {
            boolean far = rarely();
            ask("point", far ? number(-200, 200) : in(-20, 4 * model.width() + 20),
                far ? number(-200, 200) : in(-20, 4 * model.height() + 20), number(0, 255));
        }
        ask("stroke", pixels(), number(0, 3));
    }

    private void change(int l) {
        int kind = number(0, 13);
        switch (r.nextInt(8)) {
            case 0: ask("turn", l, number(0, 2)); break;
            case 1: ask("scale", l, number(1, 16), number(1, 16), r.nextBoolean()); break;
            case 2: ask("few", l, number(2, 16), r.nextBoolean()); break;
            case 3:
                for (int k = r.nextInt(4); k > 0; k--) {
                    profile(number(0, 3), number(0, 9));
                }
                ask("convert", l, number(0, 3), number(0, 3));
                break;
            default: ask("filter", l, kind, number(Model.leastAmount(kind), Model.greatestAmount(kind))); break;
        }
        ask("pixel", l, x(), y());
    }

    private void profile(int p, int i) {
        if (rarely()) {
            // a row of nothing: such a PROFILE has no inverse
            ask("profile", p, 3, 0);
            ask("profile", p, 4, 0);
            ask("profile", p, 5, 0);
        }
        ask("profile", p, i, i == 9 ? number(0, 2) : r.nextBoolean() ? in(-300, 1300) : number(-4096, 4096));
    }

    private void figure() {
        int p = r.nextInt(8);
        if (r.nextInt(4) > 0) {
            ask("step", p, 3, WILD[r.nextInt(WILD.length)], 0);
        }
        for (int k = r.nextInt(15) == 0 ? 42 : r.nextInt(8); k > 0; k--) {
            boolean far = rarely();
            ask("step", far ? number(0, 7) : p, far ? number(0, 3) : new int[] {0, 1, 1, 1, 2}[r.nextInt(5)],
                far ? number(-2000, 2000) : in(-40, 16 * model.width() + 40), in(-40, 16 * model.height() + 40));
        }
        if (r.nextInt(3) > 0) {
            ask("path", pixels(), rarely() ? number(0, 7) : p, number(0, 1));
            return;
        }
        ask("glyph", number(64, 67), rarely() ? number(-1, 7) : p, rarely() ? number(0, 800) : in(0, 200));
        byte[] text = new byte[r.nextInt(12) == 0 ? 45 : r.nextInt(6)];
        for (int i = 0; i < text.length; i++) {
            text[i] = (byte) in(64, 67);
        }
        feed(text);
        ask("text", pixels(), rarely() ? number(-2000, 2000) : in(-60, 16 * model.width()), in(-60, 16 * model.height()));
    }

    private void feed(byte[] bytes) {
        ask("end", 0);
        for (int i = 0; i < bytes.length; i += 20) {
            int[] five = new int[5];
            for (int k = 0; k < 20; k++) {
                five[k / 4] = five[k / 4] << 8 | (i + k < bytes.length ? bytes[i + k] & 255 : r.nextInt(256));
            }
            ask("feed", five[0], five[1], five[2], five[3], five[4]);
        }
        ask("end", bytes.length);
    }

    private void input() {
        if (r.nextInt(8) == 0) {
            ask("feed", r.nextInt(), 1, 2, 3, 4);
            ask("end", in(-1, 25));
        } else if (r.nextBoolean()) {
            ask("develop", number(0, 3), number(0, r.nextBoolean() ? 300 : 1024));
            feed(frame());
            ask("raw");
        } else {
            feed(file());
            ask("png");
        }
        ask("fault", 0);
        ask("fault", 1);
    }

    private byte[] frame() {
        int many = rarely() ? in(0, 99) : model.width() * model.height() * 2;
        byte[] all = new byte[many];
        r.nextBytes(all);
        for (int i = 0; i < many; i += 2) {
            all[i] &= rarely() && rarely() ? 31 : 15;
        }
        return all;
    }

    /** A PNG of small size (each byte of it costs calls), often with something wrong. */
    private byte[] file() {
        int w = in(1, 5);
        int h = in(1, 4);
        int colour = new int[] {0, 2, 3, 3, 4, 6}[r.nextInt(6)];
        int shades = in(1, 6);
        byte[] rows = new byte[h * (1 + w * (colour == 2 ? 3 : colour == 4 ? 2 : colour == 6 ? 4 : 1)) + (rarely() ? 1 : 0)];
        for (int i = 0; i < rows.length; i++) {
            rows[i] = (byte) (colour == 3 || r.nextBoolean() ? r.nextInt(shades) : r.nextInt(256));
        }
        boolean same = colour == 3 && r.nextBoolean();
        if (same) {
            // whatever the filters are, all indices are 0
            Arrays.fill(rows, (byte) 0);
        }
        for (int y = 0; y < h; y++) {
            rows[y * (rows.length / h)] = (byte) (rarely() ? 5 : colour == 3 && !same ? 0 : r.nextInt(5));
        }
        byte[] zipped = zipped(rows);
        int cut = r.nextInt(zipped.length + 1);
        List<byte[]> all = new ArrayList<>();
        all.add(PngFile.header(rarely() ? 25 : w, h, rarely() ? in(0, 7) : colour));
        if (colour == 3 && !rarely() || rarely()) {
            all.add(PngFile.chunk("PLTE", random(rarely() ? in(0, 7) : 3 * (r.nextInt(8) == 0 ? 1 : shades))));
        }
        if (r.nextInt(3) == 0) {
            all.add(PngFile.chunk("tRNS", random(r.nextInt(shades + (rarely() ? 3 : 1)))));
        }
        all.add(PngFile.chunk("IDAT", Arrays.copyOf(zipped, cut)));
        all.add(PngFile.chunk("IDAT", Arrays.copyOfRange(zipped, cut, zipped.length)));
        return spoilt(PngFile.png(all.toArray(new byte[0][])));
    }

    private byte[] random(int many) {
        byte[] all = new byte[many];
        r.nextBytes(all);
        return all;
    }

    private byte[] zipped(byte[] rows) {
        Deflater d = new Deflater(in(0, 9));
        d.setStrategy(in(0, 2));
        d.setInput(rows);
        d.finish();
        byte[] all = new byte[1000];
        int many = 0;
        while (!d.finished()) {
            many += d.deflate(all, many, all.length - many);
        }
        d.end();
        byte[] zipped = Arrays.copyOf(all, many);
        if (r.nextInt(5) == 0) {
            zipped[r.nextInt(zipped.length)] ^= 1 << r.nextInt(8);
        }
        return zipped;
    }

    private byte[] spoilt(byte[] file) {
        byte[] all = rarely() ? Arrays.copyOf(file, file.length + in(1, 14)) : file;
        if (rarely()) {
            all = Arrays.copyOf(all, r.nextInt(all.length));
        }
        if (rarely() && all.length > 0) {
            all[r.nextInt(all.length)] ^= 1 << r.nextInt(8);
        }
        return all;
    }

    private void selection() {
        int way = number(0, 3);
        int how = number(0, 3);
        switch (r.nextInt(8)) {
            case 0: ask("select", 0, way, number(-100, 100), number(-100, 100), number(-100, 100), number(-100, 100)); break;
            case 1: case 2: ask("select", in(1, 2), way, number(-9, 20), number(-9, 20), number(0, 20), number(0, 20)); break;
            case 3: ask("select", in(3, 4), way, x(), y(), r.nextBoolean() ? in(0, 9) : number(0, 255), number(-100, 100)); break;
            case 4: ask("select", 5, way, pixels(), number(-100, 100), 0, 0); break;
            case 5: ask("select", number(0, 6), way, number(0, 7), number(0, 1), number(0, 100), number(0, 100)); break;
            default: ask("reselect", how, how == 0 && !rarely() ? 0 : number(1, 8)); break;
        }
    }

    private void history() {
        for (int k = r.nextInt(15) == 0 ? 25 : in(1, 3); k > 0; k--) {
            ask("undo");
        }
        for (int k = r.nextInt(15) == 0 ? 25 : r.nextInt(3); k > 0; k--) {
            ask("redo");
        }
    }

    private void look() {
        switch (r.nextInt(15)) {
            case 0: case 1: case 2: case 3: ask("see", x(), y()); break;
            case 4: ask("hash"); break;
            case 5: ask("zoomed", in(1, 3), number(0, 2), number(0, 2)); break;
            case 6: case 7: ask("pixel", pixels(), x(), y()); break;
            case 8: ask("masked", anyLayer(), x(), y()); break;
            case 9: ask("about", anyLayer(), number(0, 15)); break;
            case 10: ask("selected", x(), y()); break;
            case 11: case 12: ask("count", in(-1, 10)); break;
            case 13: ask("octets", r.nextBoolean() ? in(-2, 200) : number(-1, 8000)); break;
            default: ask("made", r.nextBoolean() ? -1 : anyLayer()); break;
        }
    }
}
