import java.util.Arrays;
import java.util.Random;
import java.util.function.Supplier;
import java.util.zip.DataFormatException;
import java.util.zip.Deflater;
import java.util.zip.Inflater;

/** PNG files: promises 25 (png), 45 (made) and 46 (octets), against the Java library's own zlib. */
public final class PngTest extends PngFile {
    public static void main(String[] args) throws DataFormatException {
        madeRefusals();
        madeSmallest();
        madeAndTakenApart();
        octets();
        coloursOfEachSort();
        rowFilters();
        blocksOfEachSort();
        cutAndFilledUp();
        thereAndBack();
        chunkFaults();
        headerFaults();
        paletteFaults();
        packedFaults();
        blockFaults();
        codeFaults();
        indexFault();
        whichFaultIsTold();
        full();
        Check.done("PngTest");
    }

    private static void dueFault(String what, byte[] file, int sort, int place) {
        PictureStudio s = Check.studio(4, 4);
        Check.feedBytes(s, file);
        Check.faulty(what, s, () -> s.png(), sort, place);
        Check.due(what + ": INPUT is empty", s.count(8), 0);
        Check.due(what + ": no EDIT", s.count(3), 0);
    }

    private static PictureStudio read(int w, int h, byte[] file) {
        PictureStudio s = Check.studio(w, h);
        Check.feedBytes(s, file);
        Check.due("its number", s.png(), 0);
        Check.due("no FAULT", s.fault(0), 0);
        return s;
    }

    // ---- Making

    private static void madeRefusals() {
        PictureStudio s = Check.canvas(1, 1);
        s.layer(2, -1, 1);
        Check.missing("made(-2)", () -> s.made(-2));
        Check.missing("made(2)", () -> s.made(2));
        Check.missing("made of a FILL", () -> s.made(1));
        Check.due("OUT is as it was", s.octets(-1), 0);
        s.made(0);
        Check.missing("made(2)", () -> s.made(2));
        Check.due("OUT is as it was", s.octets(-1), 67);
        Check.due("no EDIT", s.count(3), 2);
    }

    private static void madeSmallest() {
        PictureStudio s = Check.studio(1, 1);
        // five bytes 0: a byte, a match of 4 from a distance of 1, the end
        byte[] due = png(header(1, 1, 6), chunk("IDAT", zlib(bits(1, 1, 1, 2, 0x30, -8, 2, -7, 0, -5, 0, -7), new byte[5])));
        Check.due("how many bytes", s.made(-1), due.length);
        Check.due("all as due", Arrays.equals(out(s), due) ? 1 : 0, 1);
    }

    private static PictureStudio colourful(int w, int h) {
        PictureStudio s = Check.studio(w, h);
        s.layer(0, -1, 0);
        s.front(0xFFC86432);
        s.fill(0, 0);
        s.filter(0, 9, 255);
        s.select(2, 0, 1, 1, w, h / 2);
        s.front(0x40FF00FF);
        s.fill(0, 2);
        s.select(1, 0, 0, h / 2, w, 2);
        s.front(0x12345678);
        s.fill(0, 2);
        s.layer(3, -1, 0);
        s.colours(1, 0xFF000000, 0x80FFFFFF);
        s.ramp(1, 0, 0, w, h);
        return s;
    }

    private static void madeAndTakenApart() throws DataFormatException {
        for (int w = 1; w <= 24; w += 5) {
            int wide = w;
            dueMade(() -> colourful(wide, 24), -1);
            dueMade(() -> colourful(wide, 24), 0);
        }
        dueMade(() -> Check.canvas(24, 24), 0);
        dueMade(() -> {
            PictureStudio s = Check.canvas(24, 24);
            Check.dot(s, 0, 20, 1, 0x01020304);
            Check.dot(s, 0, 5, 4, 0x05060708);
            Check.dot(s, 0, 20, 5, 0x7F800102);
            return s;
        }, 0);
        Check.due("no TILES are asked", colourful(3, 3).count(5), 0);
    }

    /** The file is the document's, byte by byte, and the library takes it apart. */
    private static void dueMade(Supplier<PictureStudio> studio, int l) throws DataFormatException {
        int[] colours = Check.colours(studio, l);
        PictureStudio s = studio.get();
        int w = s.count(0);
        Check.due("how many bytes", s.made(l), s.octets(-1));
        byte[] file = out(s);
        Check.due("all bytes of " + w + " by 24", Arrays.equals(file, made(w, 24, colours)) ? 1 : 0, 1);
        Inflater i = new Inflater();
        i.setInput(Arrays.copyOfRange(file, 41, file.length - 16));
        Check.due("all bytes of the rows", i.inflate(new byte[4000]), 24 * (1 + 4 * w));
        Check.due("the end of the stream", i.finished() ? i.getRemaining() : -1, 0);
    }

    private static void octets() {
        PictureStudio s = Check.studio(1, 1);
        Check.bad("octets(-2)", () -> s.octets(-2));
        Check.bad("octets(8001)", () -> s.octets(8001));
        Check.due("none at first", s.octets(0), 0);
        s.made(-1);
        Check.due("octets(-1)", s.octets(-1), 67);
        Check.due("octets(0)", s.octets(0), 0x89504E470D0A1A0AL);
        Check.due("octets(8)", s.octets(8), 0x0000000D49484452L);
        Check.due("octets(59): the last eight", s.octets(59), 0x49454E44AE426082L);
        Check.due("octets(63): 0 behind its end", s.octets(63), 0xAE42608200000000L);
        Check.due("octets(66)", s.octets(66), 0x8200000000000000L);
        Check.due("octets(67)", s.octets(67), 0);
        Check.due("octets(8000)", s.octets(8000), 0);
    }

    // ---- Reading

    private static void coloursOfEachSort() {
        PictureStudio s = read(2, 1, grey(2, 1, packed(bytes(0, 7, 200))));
        Check.duePixels("grey", s, 0, Check.grey(7), Check.grey(200));
        s = read(2, 1, png(header(2, 1, 2), chunk("IDAT", packed(bytes(0, 1, 2, 3, 200, 201, 202)))));
        Check.duePixels("R G B", s, 0, 0xFF010203, 0xFFC8C9CA);
        s = read(2, 1, png(header(2, 1, 4), chunk("IDAT", packed(bytes(0, 9, 128, 8, 0)))));
        Check.duePixels("grey, A", s, 0, 0x80090909, 0x00080808);
        s = read(2, 1, png(header(2, 1, 6), chunk("IDAT", packed(bytes(0, 1, 2, 3, 4, 200, 201, 202, 203)))));
        Check.duePixels("R G B A", s, 0, 0x04010203, 0xCBC8C9CA);
        byte[] rows = packed(bytes(0, 0, 1, 2));
        byte[] three = chunk("PLTE", bytes(1, 2, 3, 4, 5, 6, 7, 8, 9));
        byte[] idat = chunk("IDAT", rows);
        s = read(3, 1, png(header(3, 1, 3), three, idat));
        Check.duePixels("PLTE", s, 0, 0xFF010203, 0xFF040506, 0xFF070809);
        s = read(3, 1, png(header(3, 1, 3), three, chunk("tRNS", bytes(0, 128)), idat));
        Check.duePixels("tRNS of the first", s, 0, 0x00010203, 0x80040506, 0xFF070809);
        s = read(3, 1, png(header(3, 1, 3), three, chunk("tRNS", bytes(1, 2, 3)), chunk("tRNS", bytes(9)), idat));
        Check.duePixels("the latest tRNS", s, 0, 0x09010203, 0xFF040506, 0xFF070809);
        s = read(3, 1, png(header(3, 1, 3), chunk("PLTE", bytes(9, 9, 9)), chunk("tRNS", bytes(64)), three, idat));
        Check.duePixels("the latest PLTE, tRNS ahead of it", s, 0, 0x40010203, 0xFF040506, 0xFF070809);
        s = read(3, 1, png(header(3, 1, 3), idat, three, chunk("tRNS", NOTHING)));
        Check.duePixels("PLTE behind IDAT", s, 0, 0xFF010203, 0xFF040506, 0xFF070809);
        s = read(1, 1, png(header(1, 1, 0), chunk("tRNS", bytes(0, 7, 8, 9)), chunk("PLTE", bytes(1, 2, 3)),
            chunk("IDAT", packed(bytes(0, 7)))));
        Check.duePixels("tRNS and PLTE count for colour 3 alone", s, 0, Check.grey(7));
        Check.due("PIXELS", s.about(0, 0), 0);
        Check.due("an EDIT", s.undo(), 0);
    }

    private static void rowFilters() {
        byte[] rows = bytes(1, 10, 5, 250, 2, 1, 2, 3, 3, 100, 50, 7, 4, 1, 2, 3, 0, 9, 8, 7, 1, 1, 1, 1);
        PictureStudio s = read(3, 6, grey(3, 6, packed(rows)));
        int[] due = {10, 15, 9, 11, 17, 12, 105, 111, 68, 106, 113, 71, 9, 8, 7, 1, 2, 3};
        for (int i = 0; i < due.length; i++) {
            Check.dueColour("the filter of row " + i / 3 + " at " + i % 3, s.pixel(0, i % 3, i / 3), Check.grey(due[i]));
        }
        s = read(2, 3, png(header(2, 3, 2), chunk("IDAT",
            packed(bytes(4, 1, 2, 3, 10, 20, 30, 3, 1, 1, 1, 2, 2, 2, 4, 5, 5, 5, 250, 250, 250)))));
        Check.duePixels("by pixels of three bytes", s, 0, 0xFF010203, 0xFF0B1621, 0xFF010202, 0xFF080E13, 0xFF060707,
            0xFF02080D);
    }

    private static void blocksOfEachSort() {
        byte[] rows = new byte[4 * 5];
        for (int i = 0; i < rows.length; i++) {
            rows[i] = (byte) (i % 5 == 0 ? 0 : i * i * 37 + i % 3 * 5);
        }
        int[][] ways = {{Deflater.NO_COMPRESSION, Deflater.DEFAULT_STRATEGY}, {9, Deflater.DEFAULT_STRATEGY},
            {9, Deflater.HUFFMAN_ONLY}, {1, Deflater.FILTERED}};
        for (int[] way : ways) {
            dueGreys("one block by the library", rows, zipped(rows, way[0], way[1], rows.length));
            dueGreys("two blocks by the library", rows, zipped(rows, way[0], way[1], 7));
        }
        Random r = new Random(7);
        for (int kinds = 2; kinds < 60; kinds += 7) {
            byte[] skewed = new byte[24 * 25];
            for (int i = 0; i < skewed.length; i++) {
                skewed[i] = (byte) (i % 25 == 0 ? 0 : r.nextInt(1 + r.nextInt(kinds)) * 5);
            }
            PictureStudio t = read(24, 24, grey(24, 24, packed(skewed)));
            int[] due = new int[576];
            for (int i = 0; i < 576; i++) {
                due[i] = Check.grey(skewed[i / 24 * 25 + 1 + i % 24] & 255);
            }
            Check.due("told codes", t.hash(), Check.hash(due));
        }
        byte[] flat = new byte[24 * 25];
        PictureStudio s = read(24, 24, grey(24, 24, packed(flat)));
        Check.due("a long match into what it makes", s.see(23, 23), 0xFF000000);
        byte[] two = zlib(join(bytes(0, 3, 0, 252, 255, 0, 1, 2), bits(1, 1, 1, 2, 1, -7, 0, -5, 0, -7)), bytes(0, 1, 2, 2, 2, 2));
        Check.duePixels("a stored block, then a match of 3", read(5, 1, grey(5, 1, two)), 0, Check.grey(1), Check.grey(2));
        // lengths 0 0 1 of the codes for lengths: 18 has 1 bit, 1 has 1 bit; 256 alone has a code, of length 1
        byte[] lone = bits(0, 1, 2, 2, 0, 5, 0, 5, 14, 4, 0, 3, 0, 3, 1, 3, 0, 3, 0, 3, 0, 3, 0, 3, 0, 3, 0, 3, 0, 3, 0, 3,
            0, 3, 0, 3, 0, 3, 0, 3, 0, 3, 0, 3, 1, 3, 1, -1, 127, 7, 1, -1, 107, 7, 0, -1, 0, -1, 0, -1,
            1, 1, 1, 2, 0x30, -8, 0x35, -8, 0, -7);
        Check.duePixels("just one code of length 1, for 256 and for distances", read(1, 1, grey(1, 1, zlib(lone, bytes(0, 5)))),
            0, Check.grey(5));
    }

    /** By the library, with a block of its own for the first bytes. */
    private static byte[] zipped(byte[] rows, int level, int strategy, int first) {
        Deflater d = new Deflater(level);
        d.setStrategy(strategy);
        byte[] all = new byte[400];
        int n = 0;
        for (int part = 0; part < 2; part++) {
            d.setInput(rows, part == 0 ? 0 : first, part == 0 ? first : rows.length - first);
            while (part == 0 && !d.needsInput()) {
                n += d.deflate(all, n, 400 - n, Deflater.SYNC_FLUSH);
            }
        }
        d.finish();
        while (!d.finished()) {
            n += d.deflate(all, n, 400 - n);
        }
        return Arrays.copyOf(all, n);
    }

    private static void dueGreys(String what, byte[] rows, byte[] zipped) {
        PictureStudio s = read(4, 4, grey(4, 4, zipped));
        for (int i = 0; i < 16; i++) {
            Check.dueColour(what, s.pixel(0, i % 4, i / 4), Check.grey(rows[i / 4 * 5 + 1 + i % 4] & 255));
        }
    }

    private static void cutAndFilledUp() {
        byte[] file = grey(3, 2, packed(bytes(0, 1, 2, 3, 0, 4, 5, 6)));
        PictureStudio s = read(2, 3, file);
        Check.duePixels("what's beyond is left out, the rest 0", s, 0, Check.grey(1), Check.grey(2), Check.grey(4),
            Check.grey(5), 0, 0);
        s.layer(1, -1, 0);
        Check.feedBytes(s, file);
        Check.due("the next number", s.png(), 2);
        Check.due("the highest", s.about(2, 2), 2);
        Check.due("of the DOCUMENT", s.about(2, 1), -1);
        byte[] zipped = packed(bytes(0, 9));
        byte[] split = png(header(1, 1, 0), chunk("gAMA", bytes(0, 0, 1, 2)), chunk("IDAT", Arrays.copyOf(zipped, 3)),
            chunk("IDAT", NOTHING), chunk("abcd", NOTHING), chunk("IDAT", Arrays.copyOfRange(zipped, 3, zipped.length)));
        Check.duePixels("IDATs as one row, other CHUNKS passed over", read(1, 1, split), 0, Check.grey(9));
    }

    private static void thereAndBack() {
        for (int w = 1; w <= 24; w += 23) {
            int wide = w;
            PictureStudio s = colourful(w, 24);
            s.made(0);
            PictureStudio t = read(w, 24, out(s));
            Check.due("there and back", t.hash(), Check.hash(Check.colours(() -> colourful(wide, 24), 0)));
        }
    }

    private static void chunkFaults() {
        byte[] file = grey(1, 1, packed(bytes(0, 9)));
        dueFault("nothing", NOTHING, 1, 0);
        dueFault("seven bytes", Arrays.copyOf(file, 7), 1, 0);
        for (int i = 0; i < 8; i++) {
            byte[] wrong = file.clone();
            wrong[i] ^= 1;
            dueFault("byte " + i, wrong, 1, 0);
        }
        dueFault("eight bytes", Arrays.copyOf(file, 8), 1, 8);
        dueFault("no whole CHUNK", Arrays.copyOf(file, 32), 1, 8);
        dueFault("no second CHUNK", Arrays.copyOf(file, 33), 1, 33);
        dueFault("no whole second CHUNK", Arrays.copyOf(file, 44), 1, 33);
        dueFault("no IEND", Arrays.copyOf(file, file.length - 12), 1, file.length - 12);
        dueFault("no whole IEND", Arrays.copyOf(file, file.length - 1), 1, file.length - 12);
        dueFault("bytes behind", join(file, bytes(0)), 1, file.length);
        byte[] longer = file.clone();
        longer[33] = (byte) 255;
        dueFault("a length below 0", longer, 1, 33);
        longer[33] = 127;
        longer[34] = (byte) 255;
        longer[35] = (byte) 255;
        longer[36] = (byte) 255;
        dueFault("a great length", longer, 1, 33);
        for (int i : new int[] {12, 20, 32, 40, 42, file.length - 13, file.length - 8, file.length - 1}) {
            byte[] wrong = file.clone();
            wrong[i] ^= 16;
            dueFault("CRC, byte " + i, wrong, 2, i < 33 ? 8 : i < file.length - 12 ? 33 : file.length - 12);
        }
    }

    private static void headerFaults() {
        byte[] idat = chunk("IDAT", packed(bytes(0, 9)));
        dueFault("no IHDR", png(idat), 3, 8);
        dueFault("nothing but IEND", png(), 3, 8);
        dueFault("IHDR of 14 bytes", png(chunk("IHDR", bytes(0, 0, 0, 1, 0, 0, 0, 1, 8, 0, 0, 0, 0, 0)), idat), 3, 8);
        dueFault("IHDR of 12 bytes", png(chunk("IHDR", bytes(0, 0, 0, 1, 0, 0, 0, 1, 8, 0, 0, 0)), idat), 3, 8);
        dueFault("width 0", png(header(0, 1, 0), idat), 3, 8);
        dueFault("width 25", png(header(25, 1, 0), idat), 3, 8);
        dueFault("width below 0", png(header(-1, 1, 0), idat), 3, 8);
        dueFault("height 0", png(header(1, 0, 0), idat), 3, 8);
        dueFault("height 25", png(header(1, 25, 0), idat), 3, 8);
        dueFault("height 257", png(header(1, 257, 0), idat), 3, 8);
        for (int colour : new int[] {1, 5, 7, 255}) {
            dueFault("colour " + colour, png(header(1, 1, colour), idat), 3, 8);
        }
        for (int i = 8; i < 13; i++) {
            if (i != 9) {
                byte[] data = {0, 0, 0, 1, 0, 0, 0, 1, 8, 0, 0, 0, 0};
                data[i] = 1;
                dueFault("byte " + i + " of IHDR", png(chunk("IHDR", data), idat), 3, 8);
            }
        }
        dueFault("IHDR again", png(header(1, 1, 0), idat, header(1, 1, 0)), 3, 33 + idat.length);
    }

    private static void paletteFaults() {
        byte[] head = header(1, 1, 3);
        byte[] idat = chunk("IDAT", packed(bytes(0, 0)));
        byte[] one = chunk("PLTE", bytes(1, 2, 3));
        dueFault("no PLTE", png(head, idat), 4, 33 + idat.length);
        dueFault("no IDAT", png(head, one), 4, 33 + one.length);
        dueFault("no IDAT, grey", png(header(1, 1, 0)), 4, 33);
        for (int size : new int[] {0, 1, 2, 4, 5, 767, 769, 771}) {
            dueFault("PLTE of " + size, png(head, chunk("PLTE", new byte[size]), idat), 4, 33);
        }
        dueFault("a wrong PLTE with grey", png(header(1, 1, 0), idat, chunk("PLTE", bytes(1))), 4, 33 + idat.length);
        dueFault("tRNS too long", png(head, one, chunk("tRNS", bytes(1, 2)), idat), 4, 33 + one.length);
        dueFault("tRNS ahead of PLTE", png(head, chunk("tRNS", bytes(1)), one, idat), 4, 33);
        read(1, 1, png(head, chunk("PLTE", new byte[768]), chunk("tRNS", new byte[256]), idat));
    }

    private static void dueFive(String what, int w, int h, byte[] zipped) {
        dueFault(what, png(header(w, h, 0), chunk("tEXt", bytes(1)), chunk("IDAT", zipped)), 5, 46);
    }

    private static void packedFaults() {
        byte[] rows = bytes(0, 9, 8, 0, 7, 6);
        byte[] right = packed(rows);
        read(2, 2, grey(2, 2, right));
        dueFive("nothing", 2, 2, NOTHING);
        dueFive("one byte", 2, 2, Arrays.copyOf(right, 1));
        byte[] wrong = right.clone();
        wrong[0] = 0x58;
        wrong[1] = (byte) 0x85;
        dueFive("no 120, though a multiple of 31", 2, 2, wrong);
        wrong = right.clone();
        wrong[1] ^= 1;
        dueFive("no multiple of 31", 2, 2, wrong);
        wrong[1] = (byte) 0xBB;
        dueFive("bit 32", 2, 2, wrong);
        for (int n = 2; n < right.length; n++) {
            dueFive("cut off at " + n, 2, 2, Arrays.copyOf(right, n));
        }
        dueFive("a byte too many", 2, 2, join(right, bytes(0)));
        for (int i = 1; i <= 4; i++) {
            wrong = right.clone();
            wrong[right.length - i] ^= 64;
            dueFive("ADLER-32, byte " + i, 2, 2, wrong);
        }
        dueFive("more bytes than the rows need", 2, 2, packed(join(rows, bytes(0))));
        dueFive("fewer bytes than the rows need", 2, 2, packed(Arrays.copyOf(rows, 5)));
        dueFive("no bytes", 2, 2, packed());
        dueFive("a filter above 4", 2, 2, packed(bytes(0, 9, 8, 5, 7, 6)));
        dueFive("a filter above 4", 2, 2, packed(bytes(255, 9, 8, 0, 7, 6)));
        dueFive("far more bytes", 2, 2, packed(new byte[3000]));
    }

    /** A stream that would make the rows 0 5 of one grey pixel. */
    private static void dueBlock(String what, int... told) {
        dueFive(what, 1, 1, zlib(bits(told), bytes(0, 5)));
    }

    private static void blockFaults() {
        read(1, 1, grey(1, 1, zlib(bits(1, 1, 1, 2, 0x30, -8, 0x35, -8, 0, -7), bytes(0, 5))));
        dueBlock("a block of sort 3", 1, 1, 3, 2, 0x30, -8, 0x35, -8, 0, -7);
        dueBlock("no last block", 0, 1, 1, 2, 0x30, -8, 0x35, -8, 0, -7);
        dueBlock("no end of the block", 1, 1, 1, 2, 0x30, -8, 0x35, -8);
        dueBlock("a code that is none: 286", 1, 1, 1, 2, 0x30, -8, 0x35, -8, 0xC6, -8, 0, -5, 0, -7);
        dueBlock("a code that is none: 287", 1, 1, 1, 2, 0x30, -8, 0x35, -8, 0xC7, -8, 0, -5, 0, -7);
        read(1, 1, grey(1, 1, zlib(bytes(1, 2, 0, 253, 255, 0, 5), bytes(0, 5))));
        dueFive("a stored block whose length isn't told twice", 1, 1, zlib(bytes(1, 2, 0, 253, 254, 0, 5), bytes(0, 5)));
        dueFive("a stored block cut off", 1, 1, zlib(bytes(1, 200, 0, 55, 255, 0, 5), bytes(0, 5)));
        byte[] five = bytes(0, 5, 5, 5, 5);
        read(4, 1, grey(4, 1, zlib(bits(1, 1, 1, 2, 0x30, -8, 0x35, -8, 1, -7, 0, -5, 0, -7), five)));
        read(4, 1, grey(4, 1, zlib(bits(1, 1, 1, 2, 0x30, -8, 0x35, -8, 1, -7, 1, -5, 0, -7), bytes(0, 5, 0, 5, 0))));
        dueFive("a distance too far", 4, 1, zlib(bits(1, 1, 1, 2, 0x30, -8, 0x35, -8, 1, -7, 2, -5, 0, -7), five));
        dueFive("a distance too far, to where 0 could stand", 3, 1,
            zlib(bits(1, 1, 1, 2, 0x30, -8, 1, -7, 1, -5, 0, -7), new byte[4]));
        dueFive("a byte more, though ADLER-32 leaves it out", 1, 1,
            zlib(bits(1, 1, 1, 2, 0x30, -8, 0x35, -8, 0x35, -8, 0, -7), bytes(0, 5)));
        dueFive("a distance's code that is none", 4, 1, zlib(bits(1, 1, 1, 2, 0x30, -8, 0x35, -8, 1, -7, 30, -5, 0, -7), five));
        dueFive("a match beyond the rows", 3, 1, zlib(bits(1, 1, 1, 2, 0x30, -8, 0x35, -8, 1, -7, 0, -5, 0, -7), five));
    }

    /** A block with told codes: how many literals, distances; lengths of the codes for lengths 18, 0, 1, 16; then bits. */
    private static int[] told(int literals, int distances, int[] lengths, int... rest) {
        int[] order = {16, 17, 18, 0, 8, 7, 9, 6, 10, 5, 11, 4, 12, 3, 13, 2, 14, 1, 15};
        int[] head = new int[10 + 2 * order.length + rest.length];
        int[] start = {1, 1, 2, 2, literals - 257, 5, distances - 1, 5, 15, 4};
        System.arraycopy(start, 0, head, 0, 10);
        for (int i = 0; i < order.length; i++) {
            head[10 + 2 * i] = lengths[order[i]];
            head[11 + 2 * i] = 3;
        }
        System.arraycopy(rest, 0, head, 10 + 2 * order.length, rest.length);
        return head;
    }

    /** Codes for lengths 0 (00), 1 (01), 2 (10), 18 (11). */
    private static int[] four() {
        int[] all = new int[19];
        all[0] = 2;
        all[1] = 2;
        all[2] = 2;
        all[18] = 2;
        return all;
    }

    private static void dueTold(String what, int literals, int distances, int[] lengths, int... rest) {
        dueBlock(what, told(literals, distances, lengths, rest));
    }

    private static void codeFaults() {
        // 0 and 5 with 2 bits, 256 with 1 bit: 256 is 0, 0 is 10, 5 is 11
        int[] right = {2, -2, 0, -2, 0, -2, 0, -2, 0, -2, 2, -2, 3, -2, 127, 7, 3, -2, 101, 7, 1, -2, 0, -2,
            2, -2, 3, -2, 0, -1};
        read(1, 1, grey(1, 1, zlib(bits(told(257, 1, four(), right)), bytes(0, 5))));
        int[] longer = right.clone();
        longer[22] = 3;
        int[] thirty = Arrays.copyOf(longer, longer.length + 4);
        System.arraycopy(longer, 24, thirty, 28, longer.length - 24);
        int[] zeros = {18, 7, 0, -2};
        System.arraycopy(zeros, 0, thirty, 24, 4);
        read(1, 1, grey(1, 1, zlib(bits(told(286, 1, four(), thirty)), bytes(0, 5))));
        read(1, 1, grey(1, 1, zlib(bits(told(257, 30, four(), thirty)), bytes(0, 5))));
        thirty[24] = 19;
        dueTold("287 codes", 287, 1, four(), thirty);
        dueTold("31 distances", 257, 31, four(), thirty);
        dueTold("no code for 256", 257, 1, four(), 1, -2, 0, -2, 0, -2, 0, -2, 0, -2, 1, -2, 3, -2, 127, 7, 3, -2, 101, 7,
            0, -2, 0, -2, 0, -1, 1, -1, 0, -1);
        dueTold("too many codes", 257, 1, four(), 1, -2, 0, -2, 0, -2, 0, -2, 0, -2, 1, -2, 3, -2, 127, 7, 3, -2, 101, 7,
            1, -2, 0, -2, 2, -2, 3, -2, 0, -1);
        // 0 and 5 with 1 bit leave no room for 256 with 2
        dueTold("too many codes, of another length", 257, 1, four(), 1, -2, 0, -2, 0, -2, 0, -2, 0, -2, 1, -2, 3, -2, 127, 7,
            3, -2, 101, 7, 2, -2, 0, -2, 0, -1, 1, -1, 0, -2);
        dueTold("too few codes", 257, 1, four(), 2, -2, 0, -2, 0, -2, 0, -2, 0, -2, 2, -2, 3, -2, 127, 7, 3, -2, 101, 7,
            2, -2, 0, -2, 0, -2, 1, -2, 2, -2);
        dueTold("too few distances", 257, 1, four(), 2, -2, 0, -2, 0, -2, 0, -2, 0, -2, 2, -2, 3, -2, 127, 7, 3, -2, 101, 7,
            1, -2, 2, -2, 2, -2, 3, -2, 0, -1);
        dueTold("too many distances", 257, 3, four(), 2, -2, 0, -2, 0, -2, 0, -2, 0, -2, 2, -2, 3, -2, 127, 7, 3, -2,
            101, 7, 1, -2, 1, -2, 1, -2, 1, -2, 2, -2, 3, -2, 0, -1);
        dueTold("beyond their number", 257, 1, four(), 2, -2, 0, -2, 0, -2, 0, -2, 0, -2, 2, -2, 3, -2, 127, 7, 3, -2,
            101, 7, 1, -2, 3, -2, 0, 7, 2, -2, 3, -2, 0, -1);
        int[] again = four();
        again[2] = 0;
        again[16] = 2;
        dueTold("a length again with none before", 257, 1, again, 2, -2, 0, 2, 0, -2);
        int[] many = four();
        many[16] = 2;
        dueTold("too many codes for lengths", 257, 1, many, right);
        int[] few = four();
        few[18] = 3;
        dueTold("too few codes for lengths", 257, 1, few, right);
        dueTold("no codes for lengths", 257, 1, new int[19], right);
        dueTold("no code for a distance that is needed", 257 + 1, 1, four(), 0, -2, 0, -2, 0, -2, 0, -2, 0, -2, 0, -2, 3, -2,
            127, 7, 3, -2, 101, 7, 1, -2, 1, -2, 0, -2, 1, -1, 0, -1, 0, -1);
    }

    private static void indexFault() {
        byte[] two = chunk("PLTE", bytes(1, 2, 3, 4, 5, 6));
        dueFault("an index beyond PLTE", png(header(2, 1, 3), two, chunk("IDAT", packed(bytes(0, 1, 2)))), 6, 51);
        dueFault("in another row", png(header(1, 2, 3), two, chunk("IDAT", packed(bytes(0, 1, 0, 2)))), 6, 51);
        dueFault("also beyond the DOCUMENT", png(header(5, 1, 3), two, chunk("IDAT", packed(bytes(0, 0, 0, 0, 0, 2)))), 6, 51);
        dueFault("by the latest PLTE", png(header(2, 1, 3), two, chunk("IDAT", packed(bytes(0, 0, 1))),
            chunk("PLTE", bytes(1, 2, 3))), 6, 51);
    }

    private static void whichFaultIsTold() {
        byte[] bad = bytes(1);
        byte[] file = png(header(1, 1, 3), chunk("IDAT", bad));
        dueFault("4 ahead of 5", file, 4, 46);
        dueFault("bytes behind ahead of 4", join(file, bad), 1, file.length);
        byte[] five = grey(1, 1, bad);
        dueFault("bytes behind ahead of 5", join(five, bad), 1, five.length);
        byte[] six = png(header(1, 2, 3), chunk("PLTE", bytes(1, 2, 3)), chunk("IDAT", packed(bytes(0, 1, 5, 0))));
        dueFault("5 ahead of 6", six, 5, 48);
        PictureStudio s = Check.studio(1, 1);
        byte[] plte = chunk("PLTE", bytes(1, 2, 3));
        byte[] zero = chunk("IDAT", packed(bytes(0, 0)));
        Check.feedBytes(s, six);
        Check.faulty("first a wrong file", s, () -> s.png(), 5, 48);
        Check.feedBytes(s, png(header(1, 1, 3), plte, chunk("tRNS", bytes(9)), zero));
        s.png();
        Check.feedBytes(s, png(header(1, 1, 3), plte, zero));
        s.png();
        Check.duePixels("then a right one", s, 0, 0x09010203);
        Check.duePixels("without the tRNS of that before", s, 1, 0xFF010203);
        Check.feedBytes(s, png(header(1, 1, 3), zero));
        Check.faulty("nor its PLTE", s, () -> s.png(), 4, 33 + zero.length);
        byte[] crc = png(chunk("abcd", bad));
        crc[20] ^= 1;
        dueFault("2 ahead of 3", crc, 2, 8);
    }

    private static void full() {
        PictureStudio s = Check.studio(1, 1);
        for (int i = 0; i < 30; i++) {
            s.layer(2, -1, 0);
        }
        Check.feedBytes(s, grey(1, 1, packed(bytes(0, 9))));
        Check.full("the 31st LAYER", () -> s.png());
        Check.due("INPUT is empty", s.count(8), 0);
        s.feed(0, 0, 0, 0, 0);
        Check.full("FULL comes ahead of the FAULT", () -> s.png());
        Check.due("no FAULT", s.fault(0), 0);
    }
}
