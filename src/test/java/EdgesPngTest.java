import java.util.Arrays;
import java.util.Random;
import java.util.zip.DataFormatException;
import java.util.zip.Inflater;

/** Boundary cases of PNG files, made and read: promises 25, 45 and 46. */
public final class EdgesPngTest extends PngFile {
    /** Lengths of codes for all nineteen symbols that tell lengths. */
    private static final int[] NINETEEN = {4, 4, 4, 4, 4, 4, 4, 4, 4, 4, 4, 4, 4, 5, 5, 5, 5, 5, 5};
    private static final byte[] ZERO_FIVE = {0, 5};

    public static void main(String[] args) {
        Check.sentence("Each row: its filter (0 none, 1 left, 2 up, 3 the mean cut of both, 4 Paeth: p = a + b - c, the nearest to p of a, b, c, "
            + "in this order), bytes R G B A less (modulo 256) what it foretells (outside 0); that with the least sum of |byte with a "
            + "sign|, the least number.", EdgesPngTest::madeRows);
        Check.sentence("from left to right: the longest match (3 .. 258, the nearest of the longest; it may reach into what it makes) in all "
            + "bytes before, else the byte; then the end.", EdgesPngTest::madeMatches);
        Check.sentence("ADLER-32 (a from 1 plus each byte, b from 0 plus each a, modulo 65521; b 65536 + a) of the rows.",
            EdgesPngTest::madeAdler);
        Check.sentence("A PNG of what is seen (l -1) or of a LAYER's own pixels comes to OUT: how many bytes. Missing (other KINDS, too).",
            EdgesPngTest::made);
        Check.sentence("Bytes i to i + 7 of OUT (i 0 .. 8,000), the first highest, 0 behind its end; i -1: how many. Bad.",
            EdgesPngTest::octets);
        Check.sentence("1 not these eight bytes (0), or no CHUNK whole (at its length's place); 2 its CRC (at its length's place);",
            EdgesPngTest::chunks);
        Check.sentence("3 the first CHUNK isn't IHDR of 13 bytes with width, height 1 .. 24, depth 8, colour 0, 2, 3, 4, 6, then 0 0 0 (at that "
            + "CHUNK; IHDR again: likewise);", EdgesPngTest::headers);
        Check.sentence("4 no IDAT, no PLTE with colour 3 (behind all CHUNKS: at IEND), PLTE not of 3 to 768 bytes by threes, tRNS longer than "
            + "PLTE's colours (at it);", EdgesPngTest::palettes);
        Check.sentence("(all IDATs' data in order, as one row; at the first IDAT)", EdgesPngTest::firstIdat);
        Check.sentence("no 120 and two bytes that are no multiple of 31 (first 256 times and second), a set bit 32 of the second,",
            EdgesPngTest::zlibHeader);
        Check.sentence("a block of sort 3, lengths that no code tells rightly, a code that is none, a distance too far, no code for 256,",
            EdgesPngTest::wrongBlocks);
        Check.sentence("more than 286 or 30 codes told, a length to be said again with none before or beyond their number,",
            EdgesPngTest::toldCodes);
        Check.sentence("bytes missing or too many, more or fewer bytes than the rows need, another ADLER-32, a filter above 4;",
            EdgesPngTest::bytesMissing);
        Check.sentence("6 an index beyond PLTE (at the first IDAT).", EdgesPngTest::indices);
        Check.sentence("Reading ends at IEND (bytes behind: FAULT 1 there, ahead of 4, 5, 6).", EdgesPngTest::bytesBehind);
        Check.sentence("Other CHUNKS are passed over.", EdgesPngTest::otherChunks);
        Check.sentence("tRNS counts for colour 3 alone (others: passed over): A of the first colours by the latest one, 255 of others, also if a "
            + "PLTE comes behind it; of PLTEs the latest counts.", EdgesPngTest::clearColours);
        Check.sentence("Codes' lengths: too many codes, or too few but for just one of length 1 (or none, of distances): wrong.",
            EdgesPngTest::codesLengths);
        Check.sentence("DEFLATE: one last block of fixed codes (RFC 1951)", EdgesPngTest::lengthsAndDistances);
        Check.sentence("Colour 0: grey; 2: R G B; 3: PLTE's; 4: grey, A; 6: R G B A.", EdgesPngTest::colours);
        Check.sentence("It becomes a new LAYER of PIXELS (its width and height, left above; the rest 0; what's beyond the DOCUMENT is left out).",
            EdgesPngTest::sizes);
        Check.sentence("[INPUT] A PNG likewise. FULL, FAULT.", EdgesPngTest::number);
        Check.done("EdgesPngTest");
    }

    // ---- Making

    private static void dueMade(String what, int w, int h, int... colours) {
        PictureStudio s = Check.studio(w, h);
        Check.picture(s, colours);
        byte[] due = made(w, h, colours);
        Check.due(what + ": how many bytes", s.made(0), due.length);
        PictureStudio t = Check.studio(w, h);
        Check.picture(t, colours);
        t.made(0);
        Check.due(what + ": all bytes", Arrays.equals(out(t), due) ? 1 : 0, 1);
    }

    private static int[] noise(int seed, int many, int kinds) {
        Random r = new Random(seed);
        int[] all = new int[many];
        for (int i = 0; i < many; i++) {
            all[i] = kinds == 0 ? r.nextInt() : r.nextInt(kinds) * 0x01234567;
        }
        return all;
    }

    private static void madeRows() {
        dueMade("one pixel of nothing", 1, 1, 0);
        dueMade("one pixel", 1, 1, 0xFFFFFFFF);
        for (int v = 126; v <= 130; v++) {
            dueMade("bytes of " + v, 2, 2, v, v << 8, v << 24, v << 16);
            dueMade("a row of " + v, 3, 1, v, 0, v << 24);
        }
        for (int i = 0; i < 12; i++) {
            dueMade("noise " + i, 1 + 2 * i, 24 - 2 * i, noise(i, (1 + 2 * i) * (24 - 2 * i), 0));
        }
        int[] slope = new int[256];
        for (int i = 0; i < 256; i++) {
            slope[i] = Told.colour(255, 16 * (i % 16), 16 * (i / 16), 8 * (i % 16 + i / 16));
        }
        dueMade("a slope", 16, 16, slope);
        // 127 is nearer to 0 than 129: |byte with a sign| of 127 is 127, of 129 too, of 128 is 128
        dueMade("127 and 129", 2, 2, 0x7F000000, 0x00000081, 0x00007F00, 0x00810000);
        for (int i = 0; i < 60; i++) {
            Random r = new Random(i);
            int[] few = new int[12];
            for (int k = 0; k < 12; k++) {
                few[k] = (124 + r.nextInt(9)) << r.nextInt(4) * 8;
            }
            dueMade("bytes about 128, " + i, 4, 3, few);
        }
    }

    private static void madeMatches() {
        dueMade("all 0: matches of 258", 24, 24, new int[576]);
        for (int i = 0; i < 576; i += 13) {
            int[] dot = new int[576];
            dot[i] = 0x01020304;
            dueMade("a dot at " + i, 24, 24, dot);
        }
        for (int w = 1; w <= 24; w++) {
            dueMade("all 0, " + w + " by " + (25 - w), w, 25 - w, new int[w * (25 - w)]);
        }
        for (int kinds = 2; kinds < 8; kinds++) {
            dueMade("few kinds " + kinds, 24, 24, noise(kinds, 576, kinds));
        }
        dueMade("the greatest file", 24, 24, noise(99, 576, 0));
        int[] twice = noise(7, 576, 0);
        System.arraycopy(twice, 0, twice, 288, 288);
        dueMade("twelve rows again", 24, 24, twice);
        int[] last = noise(8, 576, 0);
        last[575] = last[0];
        dueMade("the first pixel again as the last", 24, 24, last);
    }

    private static void madeAdler() {
        int[] white = new int[576];
        Arrays.fill(white, -1);
        dueMade("white", 24, 24, white);
        // each row but the first is all 0; a stays small, b doesn't
        int[] stripes = new int[576];
        for (int i = 0; i < 576; i++) {
            stripes[i] = i / 24 % 2 == 0 ? 0x80808080 : 0x7F7F7F7F;
        }
        dueMade("stripes", 24, 24, stripes);
        for (int i = 0; i < 6; i++) {
            dueMade("sums that go on beyond 65521, " + i, 24, 24, noise(50 + i, 576, 0));
        }
    }

    private static void made() {
        PictureStudio s = Check.canvas(2, 1);
        for (int kind = 1; kind < 6; kind++) {
            int l = s.layer(kind, -1, 0);
            Check.missing("KIND " + kind, () -> s.made(l));
        }
        for (int l : new int[] {-2, 6, 29, 30, Integer.MIN_VALUE, Integer.MAX_VALUE}) {
            Check.missing("LAYER " + l, () -> s.made(l));
        }
        Check.due("OUT is as it was", s.octets(-1), 0);
        PictureStudio t = Check.studio(2, 2);
        int[] colours = {0x80102030, 0x00FFFFFF, 0xFF405060, 0x01020304};
        Check.picture(t, colours);
        t.set(0, 4, 1);
        t.set(0, 0, 7);
        t.set(0, 2, 0);
        t.made(0);
        Check.due("its own pixels, before its shift, shown or not", Arrays.equals(out(t), made(2, 2, colours)) ? 1 : 0, 1);
        t.made(-1);
        Check.due("what is seen: nothing", Arrays.equals(out(t), made(2, 2, 0, 0, 0, 0)) ? 1 : 0, 1);
        t.set(0, 2, 1);
        t.set(0, 0, 255);
        t.made(-1);
        Check.due("what is seen", Arrays.equals(out(t), made(2, 2, 0, 0x80102030, 0, 0xFF405060)) ? 1 : 0, 1);
        Check.due("no TILES, no EDIT", t.count(5), 0);
    }

    private static void octets() {
        PictureStudio s = Check.studio(1, 1);
        Check.ends("i", -1, 8000, v -> s.octets(v));
        Check.due("none at first", s.octets(-1), 0);
        Check.due("none at first", s.octets(0), 0);
        PictureStudio t = Check.studio(24, 24);
        Check.picture(t, noise(3, 576, 0));
        int great = t.made(0);
        long behind = t.octets(60);
        Check.due("something stands there", behind == 0 ? 1 : 0, 0);
        t.open(1, 1);
        Check.due("a small file", t.made(-1), 67);
        Check.due("its number of bytes", t.octets(-1), 67);
        byte[] due = made(1, 1, 0);
        for (int i = 56; i < 70; i++) {
            long eight = 0;
            for (int k = i; k < i + 8; k++) {
                eight = eight << 8 | (k < 67 ? due[k] & 255 : 0);
            }
            Check.due("bytes from " + i + " on, 0 behind its end", t.octets(i), eight);
        }
        Check.due("nothing of the file before", t.octets(great - 8), 0);
        Check.due("far behind", t.octets(8000), 0);
        Check.due("the first highest", t.octets(0), 0x89504E470D0A1A0AL);
    }

    // ---- Reading

    private static PictureStudio read(String what, int w, int h, byte[] file) {
        PictureStudio s = Check.studio(w, h);
        Check.feedBytes(s, file);
        Check.taken(what, () -> Check.due(what, s.png(), 0));
        Check.due(what + ": FAULT", s.fault(0), 0);
        return s;
    }

    private static void dueFault(String what, byte[] file, int sort, int place) {
        PictureStudio s = Check.studio(4, 4);
        Check.feedBytes(s, file);
        Check.faulty(what, s, () -> s.png(), sort, place);
        Check.due(what + ": no LAYER", s.count(2), 0);
        Check.due(what + ": no EDIT", s.count(3), 0);
        Check.due(what + ": INPUT", s.count(8), 0);
    }

    private static byte[] right() {
        return grey(1, 1, packed(ZERO_FIVE));
    }

    private static void chunks() {
        byte[] file = right();
        read("the right one", 1, 1, file);
        for (int n = 0; n < file.length; n++) {
            int place = n < 8 ? 0 : n < 33 ? 8 : n < file.length - 12 ? 33 : file.length - 12;
            dueFault("cut off at " + n, Arrays.copyOf(file, n), 1, place);
        }
        for (int i = 0; i < file.length; i++) {
            byte[] wrong = file.clone();
            wrong[i] ^= 0x40;
            int place = i < 8 ? 0 : i < 33 ? 8 : i < file.length - 12 ? 33 : file.length - 12;
            boolean length = i >= 8 && i - place < 4;
            dueFault("another byte at " + i, wrong, i < 8 || length ? 1 : 2, place);
        }
        byte[] shorter = file.clone();
        shorter[36]--;
        dueFault("a length too small: another CRC", shorter, 2, 33);
        int zipped = packed(ZERO_FIVE).length;
        byte[] longer = file.clone();
        longer[36] += 12;
        dueFault("a length up to the end: another CRC", longer, 2, 33);
        longer[36]++;
        dueFault("a length beyond the end by one", longer, 1, 33);
        Check.due("so long is IDAT", file.length, 33 + 12 + zipped + 12);
        byte[] great = file.clone();
        great[33] = -128;
        dueFault("a length that wraps around", great, 1, 33);
        great[33] = 127;
        dueFault("a great length", great, 1, 33);
        Arrays.fill(great, 33, 37, (byte) -1);
        dueFault("a length of -1", great, 1, 33);
        cutByEnd(file);
    }

    /** Bytes that end cut off again are no bytes of INPUT, though they would be the right ones. */
    private static void cutByEnd(byte[] file) {
        for (int n = 0; n < file.length; n++) {
            PictureStudio s = Check.studio(1, 1);
            Check.feedBytes(s, file);
            s.end(n);
            int place = n < 8 ? 0 : n < 33 ? 8 : n < file.length - 12 ? 33 : file.length - 12;
            Check.faulty("cut off at " + n + " by end", s, s::png, 1, place);
        }
    }

    private static byte[] headed(int... thirteen) {
        return png(chunk("IHDR", bytes(thirteen)), chunk("IDAT", packed(ZERO_FIVE)));
    }

    private static void headers() {
        int[] one = {0, 0, 0, 1, 0, 0, 0, 1, 8, 0, 0, 0, 0};
        read("the right one", 1, 1, headed(one));
        for (int at = 0; at < 8; at++) {
            for (int v : new int[] {at % 4 == 3 ? 0 : 1, at % 4 == 3 ? 25 : 128, 255}) {
                int[] other = one.clone();
                other[at] = v;
                dueFault("byte " + at + " is " + v, headed(other), 3, 8);
            }
        }
        for (int[] size : new int[][] {{24, 24}, {24, 1}, {1, 24}, {1, 1}}) {
            int many = size[1] * (1 + size[0]);
            read(size[0] + " by " + size[1], 24, 24, grey(size[0], size[1], packed(new byte[many])));
        }
        for (int colour = 0; colour < 256; colour++) {
            if (colour > 8 && colour < 250 && colour % 16 != 0) {
                continue;
            }
            int[] other = one.clone();
            other[9] = colour;
            boolean known = colour == 0 || colour == 2 || colour == 3 || colour == 4 || colour == 6;
            if (!known) {
                dueFault("colour " + colour, headed(other), 3, 8);
            }
        }
        int[][] others = {{8, 7}, {8, 9}, {8, 0}, {8, 16}, {10, 1}, {11, 1}, {12, 1}, {10, 255}, {11, 255}, {12, 255}};
        for (int[] o : others) {
            int[] other = one.clone();
            other[o[0]] = o[1];
            dueFault("byte " + o[0] + " is " + o[1], headed(other), 3, 8);
        }
        dueFault("12 bytes", headed(Arrays.copyOf(one, 12)), 3, 8);
        dueFault("14 bytes", headed(Arrays.copyOf(one, 14)), 3, 8);
        dueFault("none", headed(), 3, 8);
        byte[] idat = chunk("IDAT", packed(ZERO_FIVE));
        dueFault("no IHDR", png(idat), 3, 8);
        dueFault("another CHUNK first", png(chunk("tEXt", bytes(1)), header(1, 1, 0), idat), 3, 8);
        dueFault("just IEND", png(), 3, 8);
        dueFault("IHDR again", png(header(1, 1, 0), header(1, 1, 0), idat), 3, 33);
        dueFault("IHDR again behind IDAT", png(header(1, 1, 0), idat, header(1, 1, 0)), 3, 33 + idat.length);
    }

    private static void palettes() {
        byte[] idat = chunk("IDAT", packed(new byte[] {0, 0}));
        byte[] head = header(1, 1, 3);
        byte[] one = chunk("PLTE", bytes(1, 2, 3));
        for (int n = 0; n <= 800; n++) {
            boolean right = n >= 3 && n <= 768 && n % 3 == 0;
            if (n > 12 && n < 760 && n % 97 != 0) {
                continue;
            }
            byte[] file = png(head, chunk("PLTE", new byte[n]), idat);
            if (right) {
                read("PLTE of " + n, 1, 1, file);
            } else {
                dueFault("PLTE of " + n, file, 4, 33);
            }
        }
        dueFault("no IDAT", png(head, one), 4, 33 + one.length);
        dueFault("no IDAT, grey", png(header(1, 1, 0)), 4, 33);
        dueFault("no PLTE", png(head, idat), 4, 33 + idat.length);
        dueFault("neither", png(head), 4, 33);
        read("no PLTE is needed", 1, 1, png(header(1, 1, 0), idat));
        dueFault("a wrong PLTE that isn't needed", png(header(1, 1, 0), chunk("PLTE", bytes(1, 2)), idat), 4, 33);
        byte[] two = chunk("PLTE", bytes(1, 2, 3, 4, 5, 6));
        read("tRNS as long as PLTE's colours", 1, 1, png(head, two, chunk("tRNS", bytes(1, 2)), idat));
        dueFault("tRNS longer by one", png(head, two, chunk("tRNS", bytes(1, 2, 3)), idat), 4, 33 + two.length);
        read("tRNS of nothing", 1, 1, png(head, two, chunk("tRNS"), idat));
        byte[] all = chunk("PLTE", new byte[768]);
        read("tRNS of 256", 1, 1, png(head, all, chunk("tRNS", new byte[256]), idat));
        dueFault("tRNS of 257", png(head, all, chunk("tRNS", new byte[257]), idat), 4, 33 + all.length);
        dueFault("the first wrong one is told", png(head, chunk("PLTE", bytes(1)), chunk("PLTE", bytes(1, 2)), idat), 4, 33);
    }

    private static void firstIdat() {
        byte[] zipped = packed(ZERO_FIVE);
        byte[] none = chunk("IDAT");
        byte[] text = chunk("tEXt", bytes(1, 2, 3));
        byte[][] each = new byte[zipped.length][];
        for (int i = 0; i < each.length; i++) {
            each[i] = chunk("IDAT", zipped[i]);
        }
        PictureStudio s = read("each byte in an IDAT of its own", 1, 1, png(header(1, 1, 0), join(each)));
        Check.duePixels("as one row", s, 0, Check.grey(5));
        read("empty ones and others between", 1, 1, png(header(1, 1, 0), none, chunk("IDAT", Arrays.copyOf(zipped, 3)), text, none,
            chunk("IDAT", Arrays.copyOfRange(zipped, 3, zipped.length)), none));
        dueFault("nothing in it", png(header(1, 1, 0), text, none), 5, 33 + text.length);
        dueFault("wrong in the second one", png(header(1, 1, 0), text, none, chunk("IDAT", bytes(1, 2, 3))), 5, 33 + text.length);
        dueFault("in another order", png(header(1, 1, 0), chunk("IDAT", Arrays.copyOfRange(zipped, 3, zipped.length)),
            chunk("IDAT", Arrays.copyOf(zipped, 3))), 5, 33);
    }

    private static void zlibHeader() {
        byte[] zipped = packed(ZERO_FIVE);
        for (int second = 0; second < 256; second++) {
            byte[] other = zipped.clone();
            other[0] = 120;
            other[1] = (byte) second;
            boolean multiple = (120 * 256 + second) % 31 == 0;
            if (multiple && (second & 32) == 0) {
                read("120 and " + second, 1, 1, grey(1, 1, other));
            } else {
                dueFault("120 and " + second, grey(1, 1, other), 5, 33);
            }
        }
        for (int first = 0; first < 256; first++) {
            byte[] other = zipped.clone();
            other[0] = (byte) first;
            int second = (31 - first * 256 % 31) % 31;
            other[1] = (byte) second;
            if (first != 120) {
                dueFault(first + " and " + second + ", a multiple of 31", grey(1, 1, other), 5, 33);
            }
        }
    }

    // ---- Blocks

    private static byte[] made(byte[] deflated) throws DataFormatException {
        Inflater i = new Inflater(true);
        i.setInput(deflated);
        byte[] all = new byte[4000];
        int n = i.inflate(all);
        return i.finished() ? Arrays.copyOf(all, n) : NOTHING;
    }

    /** A stream that the library reads, too: grey rows without filters. */
    private static void dueRows(String what, int w, Bits stream, byte... rows) {
        byte[] deflated = stream.bytes();
        try {
            Check.due(what + ": the library reads it", Arrays.equals(made(deflated), rows) ? 1 : 0, 1);
        } catch (DataFormatException e) {
            Check.dueText(what + ": the library", e.getMessage(), "");
        }
        int h = rows.length / (1 + w);
        int[] due = new int[w * h];
        for (int i = 0; i < due.length; i++) {
            due[i] = Check.grey(rows[i / w * (1 + w) + 1 + i % w] & 255);
        }
        Check.due(what, read(what, w, h, grey(w, h, zlib(deflated, rows))).hash(), Check.hash(due));
    }

    /** A stream that would make these rows if just one thing weren't wrong. */
    private static void dueWrong(String what, int w, Bits stream, byte... rows) {
        dueFault(what, grey(w, rows.length / (1 + w), zlib(stream.bytes(), rows)), 5, 33);
    }

    private static Bits block(boolean last, int sort) {
        return new Bits().number(last ? 1 : 0, 1).number(sort, 2);
    }

    /** A block that tells its codes, each length for itself. */
    private static Bits told(Bits all, boolean last, int[] literals, int[] distances) {
        all.number(last ? 1 : 0, 1).number(2, 2).number(literals.length - 257, 5).number(distances.length - 1, 5).orders(NINETEEN, 19);
        for (int n : literals) {
            all.symbol(NINETEEN, n);
        }
        for (int n : distances) {
            all.symbol(NINETEEN, n);
        }
        return all;
    }

    /** Lengths of 257 codes or more, of which just these aren't 0: symbol, length, .. */
    private static int[] literals(int many, int... told) {
        int[] all = new int[many];
        for (int i = 0; i < told.length; i += 2) {
            all[told[i]] = told[i + 1];
        }
        return all;
    }

    private static final int[] NONE = {0};

    private static int[] zeroFive() {
        return literals(257, 0, 2, 5, 2, 256, 1);
    }

    private static void wrongBlocks() {
        dueRows("the right one", 1, told(new Bits(), true, zeroFive(), NONE).tokens(zeroFive(), NONE, 0, 5, 256), ZERO_FIVE);
        Bits three = block(false, 3).number(3, 3).tokens(fixedLiterals(), fixedDistances(), 0, 5, 256);
        dueWrong("a block of sort 3, a right one behind it", 1, three, ZERO_FIVE);
        Bits lastThree = block(false, 1).tokens(fixedLiterals(), fixedDistances(), 0, 5, 256).number(1, 1).number(3, 2);
        dueWrong("a last block of sort 3", 1, lastThree, ZERO_FIVE);
        dueRows("an empty block first", 1, block(false, 1).symbol(fixedLiterals(), 256).number(3, 3)
            .tokens(fixedLiterals(), fixedDistances(), 0, 5, 256), ZERO_FIVE);
        int[] four = literals(258, 0, 2, 5, 2, 256, 2, 257, 2);
        int[] single = {1};
        byte[] fives = {0, 5, 5, 5, 5};
        dueRows("one distance of one bit", 4, told(new Bits(), true, four, single).tokens(four, single, 0, 5, -3, 1, 256), fives);
        dueWrong("its other bit is no code", 4, told(new Bits(), true, four, single).tokens(four, single, 0, 5, 257)
            .code(1 << 14, 15).symbol(four, 256), fives);
        dueWrong("a distance when none has a code", 4, told(new Bits(), true, four, NONE).tokens(four, NONE, 0, 5, 257)
            .code(0, 15).symbol(four, 256), fives);
        int[] end = literals(257, 256, 1);
        dueRows("a block of one code, its end", 1, told(new Bits(), false, end, NONE).symbol(end, 256).number(3, 3)
            .tokens(fixedLiterals(), fixedDistances(), 0, 5, 256), ZERO_FIVE);
        dueWrong("its other bit is no code", 1, told(new Bits(), false, end, NONE).code(1 << 14, 15).symbol(end, 256).number(3, 3)
            .tokens(fixedLiterals(), fixedDistances(), 5, 256), ZERO_FIVE);
        for (int d = 30; d < 32; d++) {
            dueWrong("fixed distance " + d, 4, block(true, 1).tokens(fixedLiterals(), fixedDistances(), 0, 5, 257).code(d, 5)
                .symbol(fixedLiterals(), 256), fives);
            dueWrong("fixed literal " + (256 + d), 4, block(true, 1).tokens(fixedLiterals(), fixedDistances(), 0, 5, 5, 5, 5, 256 + d)
                .symbol(fixedLiterals(), 256), fives);
        }
        dueRows("the farthest distance", 4, block(true, 1).tokens(fixedLiterals(), fixedDistances(), 0, 5, -3, 2, 256),
            new byte[] {0, 5, 0, 5, 0});
        dueWrong("a distance too far by one", 4, block(true, 1).tokens(fixedLiterals(), fixedDistances(), 0, 0, -3, 3, 256), new byte[5]);
        dueWrong("a distance before the first byte", 2, block(true, 1).tokens(fixedLiterals(), fixedDistances(), -3, 1, 256), new byte[3]);
        dueWrong("no code for 256", 1, told(new Bits(), true, literals(257, 0, 1, 5, 1), NONE)
            .tokens(literals(257, 0, 1, 5, 1), NONE, 0, 5), ZERO_FIVE);
    }

    private static void toldCodes() {
        int[] most = literals(286, 0, 2, 5, 2, 256, 1);
        dueRows("286 codes", 1, told(new Bits(), true, most, NONE).tokens(most, NONE, 0, 5, 256), ZERO_FIVE);
        for (int many = 287; many <= 288; many++) {
            int[] more = literals(many, 0, 2, 5, 2, 256, 1);
            dueWrong(many + " codes", 1, told(new Bits(), true, more, NONE).tokens(more, NONE, 0, 5, 256), ZERO_FIVE);
        }
        int[] thirty = new int[30];
        dueRows("30 distances", 1, told(new Bits(), true, zeroFive(), thirty).tokens(zeroFive(), NONE, 0, 5, 256), ZERO_FIVE);
        for (int many = 31; many <= 32; many++) {
            int[] more = new int[many];
            dueWrong(many + " distances", 1, told(new Bits(), true, zeroFive(), more).tokens(zeroFive(), NONE, 0, 5, 256), ZERO_FIVE);
        }
        int[] deep = new int[257];
        for (int i = 0; i < 15; i++) {
            deep[i] = i + 1;
        }
        deep[256] = 15;
        byte[] rows = {0, 14, 13, 1, 0, 12, 14, 2};
        dueRows("codes of 1 to 15 bits", 7, told(new Bits(), true, deep, NONE).tokens(deep, NONE, 0, 14, 13, 1, 0, 12, 14, 2, 256), rows);
        int[] deepDistances = {15, 14, 13, 12, 11, 10, 9, 8, 7, 6, 5, 4, 3, 2, 1, 15};
        int[] four = literals(258, 0, 2, 5, 2, 256, 2, 257, 2);
        dueRows("distances of 15 bits", 4, told(new Bits(), true, four, deepDistances).tokens(four, deepDistances, 0, 5, -3, 1, 256),
            new byte[] {0, 5, 5, 5, 5});
        again();
    }

    /** Eight codes of three bits, 0 to 6 and 256, told by lengths said again. */
    private static Bits eight(int distances, int... symbols) {
        return new Bits().number(1, 1).number(2, 2).number(0, 5).number(distances - 1, 5).orders(NINETEEN, 19).lengths(NINETEEN, symbols);
    }

    private static void again() {
        int[] eight = literals(257, 0, 3, 1, 3, 2, 3, 3, 3, 4, 3, 5, 3, 6, 3, 256, 3);
        int[] distances = {3, 3, 3, 3, 3, 3, 3, 3};
        int[][] right = {
            {3, 0, 16, 3, 18, 127, 18, 100, 3, 0, 0, 0},
            {3, 0, 16, 0, 16, 0, 18, 127, 18, 100, 3, 0, 0, 0},
            {3, 0, 3, 0, 16, 1, 3, 0, 18, 127, 17, 0, 18, 97, 3, 0, 0, 0},
            {3, 0, 16, 3, 17, 7, 18, 127, 18, 0, 18, 79, 3, 0, 0, 0},
            {3, 0, 16, 3, 0, 0, 16, 3, 16, 0, 18, 127, 18, 90, 3, 0, 0, 0},
            {3, 0, 16, 3, 18, 127, 18, 100, 3, 0, 0, 0}};
        for (int i = 0; i < right.length; i++) {
            dueRows("lengths said again, " + i, 1, eight(1, right[i]).tokens(eight, NONE, 0, 5, 256), ZERO_FIVE);
        }
        dueRows("said again from literals on to distances", 1,
            eight(8, 3, 0, 16, 3, 18, 127, 18, 100, 3, 0, 16, 2, 16, 0).tokens(eight, distances, 0, 5, 256), ZERO_FIVE);
        dueWrong("beyond their number by one", 1,
            eight(8, 3, 0, 16, 3, 18, 127, 18, 100, 3, 0, 16, 2, 16, 1).tokens(eight, distances, 0, 5, 256), ZERO_FIVE);
        dueRows("none to their end", 1, eight(3, 3, 0, 16, 3, 18, 127, 18, 100, 3, 0, 17, 0).tokens(eight, NONE, 0, 5, 256), ZERO_FIVE);
        dueWrong("none beyond their end by one", 1, eight(2, 3, 0, 16, 3, 18, 127, 18, 100, 3, 0, 17, 0).tokens(eight, NONE, 0, 5, 256),
            ZERO_FIVE);
        dueRows("none to their end, by 18", 1, eight(11, 3, 0, 16, 3, 18, 127, 18, 100, 3, 0, 18, 0).tokens(eight, NONE, 0, 5, 256), ZERO_FIVE);
        dueWrong("none beyond their end by one, by 18", 1,
            eight(10, 3, 0, 16, 3, 18, 127, 18, 100, 3, 0, 18, 0).tokens(eight, NONE, 0, 5, 256), ZERO_FIVE);
        int[] late = literals(257, 3, 3, 4, 3, 5, 3, 6, 3, 7, 3, 8, 3, 9, 3, 256, 3);
        dueRows("17 first", 1, late(17).tokens(late, NONE, 5, 256), ZERO_FIVE);
        dueWrong("said again with none before, which would be 0", 1, late(16).tokens(late, NONE, 5, 256), ZERO_FIVE);
    }

    /** A byte 0, then a block whose codes are 3 to 9 and 256: the first three lengths are told by this symbol. */
    private static Bits late(int symbol) {
        return block(false, 1).tokens(fixedLiterals(), fixedDistances(), 0, 256).number(1, 1).number(2, 2).number(0, 5).number(0, 5)
            .orders(NINETEEN, 19).lengths(NINETEEN, symbol, 0, 3, 0, 16, 3, 18, 127, 18, 97, 3, 0, 0, 0);
    }

    private static void codesLengths() {
        int[] extra = literals(257, 0, 2, 5, 2, 256, 1, 6, 3);
        dueWrong("too many codes, one that isn't used", 1, told(new Bits(), true, extra, NONE).tokens(zeroFive(), NONE, 0, 5, 256), ZERO_FIVE);
        int[] extra15 = literals(257, 0, 2, 5, 2, 256, 1, 6, 15);
        dueWrong("too many codes, one of 15 bits", 1, told(new Bits(), true, extra15, NONE).tokens(zeroFive(), NONE, 0, 5, 256), ZERO_FIVE);
        int[] fewer = literals(257, 0, 2, 5, 2, 256, 2);
        dueWrong("too few codes", 1, told(new Bits(), true, fewer, NONE).tokens(fewer, NONE, 0, 5, 256), ZERO_FIVE);
        int[] fewer15 = literals(257, 0, 1, 5, 2, 256, 15);
        dueWrong("too few codes, of 15 bits", 1, told(new Bits(), true, fewer15, NONE).tokens(fewer15, NONE, 0, 5, 256), ZERO_FIVE);
        int[] two = literals(257, 256, 2);
        dueWrong("just one of length 2", 1, told(new Bits(), false, two, NONE).tokens(two, NONE, 256).number(3, 3)
            .tokens(fixedLiterals(), fixedDistances(), 0, 5, 256), ZERO_FIVE);
        int[] pair = literals(257, 0, 1, 256, 2);
        dueWrong("one of length 1 and one of 2", 1, told(new Bits(), false, pair, NONE).tokens(pair, NONE, 0, 256).number(3, 3)
            .tokens(fixedLiterals(), fixedDistances(), 5, 256), ZERO_FIVE);
        int[][] right = {{0}, {0, 0}, {1}, {0, 1}, {1, 1}, {1, 2, 2}, {2, 2, 2, 2}, {0, 1, 0, 1}};
        int[][] wrong = {{2}, {15}, {1, 2}, {2, 2}, {1, 1, 1}, {1, 1, 15}, {2, 2, 2, 2, 3}, {1, 2, 3}, {0, 15}};
        for (int[] d : right) {
            dueRows("distances " + Arrays.toString(d), 1, told(new Bits(), true, zeroFive(), d).tokens(zeroFive(), d, 0, 5, 256), ZERO_FIVE);
        }
        for (int[] d : wrong) {
            dueWrong("distances " + Arrays.toString(d), 1, told(new Bits(), true, zeroFive(), d).tokens(zeroFive(), d, 0, 5, 256), ZERO_FIVE);
        }
        dueOrders("as they should be", true, literals(19, 0, 1, 1, 2, 2, 2), 19);
        dueOrders("one more, of length 3", false, literals(19, 0, 1, 1, 2, 2, 2, 18, 3), 19);
        dueOrders("one more, of length 7", false, literals(19, 0, 1, 1, 2, 2, 2, 15, 7), 19);
        dueOrders("too few", false, literals(19, 0, 1, 1, 2, 2, 3), 19);
        dueOrders("too few, of length 7", false, literals(19, 0, 1, 1, 2, 2, 7), 19);
        dueOrders("18 are enough for these", true, literals(19, 0, 1, 1, 2, 2, 2), 18);
        afterFixedCodes();
    }

    /** The codes for lengths themselves. */
    private static void dueOrders(String what, boolean right, int[] orders, int many) {
        Bits all = new Bits().number(1, 1).number(2, 2).number(0, 5).number(0, 5).orders(orders, many);
        for (int n : zeroFive()) {
            all.symbol(orders, n);
        }
        all.symbol(orders, 0).tokens(zeroFive(), NONE, 0, 5, 256);
        if (right) {
            dueRows("codes for lengths: " + what, 1, all, ZERO_FIVE);
        } else {
            dueWrong("codes for lengths: " + what, 1, all, ZERO_FIVE);
        }
    }

    /** Five codes for lengths are told: those of the block before count no more. */
    private static void afterFixedCodes() {
        int[] orders = literals(19, 8, 1, 16, 2, 0, 2);
        int[] most = new int[257];
        Arrays.fill(most, 8);
        most[255] = 0;
        Bits all = block(false, 1).tokens(fixedLiterals(), fixedDistances(), 0, 256);
        all.number(1, 1).number(2, 2).number(0, 5).number(0, 5).orders(orders, 5).lengths(orders, 8, 0);
        for (int i = 0; i < 42; i++) {
            all.lengths(orders, 16, 3);
        }
        all.lengths(orders, 8, 0, 8, 0, 0, 0, 8, 0, 0, 0).tokens(most, NONE, 5, 256);
        dueRows("five codes behind fixed codes", 1, all, ZERO_FIVE);
        Bits first = told(new Bits(), false, zeroFive(), NONE).tokens(zeroFive(), NONE, 0, 256);
        int[] other = literals(258, 7, 1, 256, 2, 257, 2);
        int[] single = {1};
        told(first, true, other, single).tokens(other, single, 7, -3, 1, 256);
        dueRows("other codes behind told ones", 4, first, new byte[] {0, 7, 7, 7, 7});
    }

    private static void bytesMissing() {
        byte[] rows = {0, -1};
        byte[] zipped = zlib(fixed(0, 255), rows);
        read("the right one", 1, 1, grey(1, 1, zipped));
        Check.due("ADLER-32 ends with 0", zipped[zipped.length - 1], 0);
        for (int n = 0; n < zipped.length; n++) {
            dueFault("cut off at " + n, grey(1, 1, Arrays.copyOf(zipped, n)), 5, 33);
        }
        dueFault("one 0 too many", grey(1, 1, join(zipped, bytes(0))), 5, 33);
        dueFault("many bytes too many", grey(1, 1, join(zipped, new byte[500])), 5, 33);
        for (int bit = 0; bit < 32; bit++) {
            byte[] other = zipped.clone();
            other[zipped.length - 4 + bit / 8] ^= 1 << bit % 8;
            dueFault("another ADLER-32, bit " + bit, grey(1, 1, other), 5, 33);
        }
        Bits noLast = block(false, 1).tokens(fixedLiterals(), fixedDistances(), 0, 5, 256);
        dueWrong("no last block", 1, noLast, ZERO_FIVE);
        dueRows("stored", 1, new Bits().stored(true, ZERO_FIVE), ZERO_FIVE);
        dueRows("stored, nothing in the first", 1, new Bits().stored(false).stored(true, ZERO_FIVE), ZERO_FIVE);
        dueRows("stored behind fixed codes", 1, block(false, 1).tokens(fixedLiterals(), fixedDistances(), 0, 256).stored(true, (byte) 5),
            ZERO_FIVE);
        byte[] stored = new Bits().stored(true, ZERO_FIVE).bytes();
        for (int bit = 0; bit < 32; bit++) {
            byte[] other = stored.clone();
            other[1 + bit / 8] ^= 1 << bit % 8;
            dueFault("stored, bit " + bit + " of its lengths", grey(1, 1, zlib(other, ZERO_FIVE)), 5, 33);
        }
        byte[] six = {0, 1, 2, 0, 3, 4};
        read("as many as the rows need", 2, 2, grey(2, 2, packed(six)));
        dueFault("one more", grey(2, 2, packed(join(six, bytes(0)))), 5, 33);
        dueFault("one fewer", grey(2, 2, packed(Arrays.copyOf(six, 5))), 5, 33);
        dueFault("none", grey(2, 2, packed()), 5, 33);
        dueRows("a match up to their end", 4, block(true, 1).tokens(fixedLiterals(), fixedDistances(), 0, 5, -3, 1, 256),
            new byte[] {0, 5, 5, 5, 5});
        dueFault("a match beyond their end by one", grey(4, 1, zlib(fixed(0, 5, -4, 1), bytes(0, 5, 5, 5, 5))), 5, 33);
        dueFault("a byte beyond their end, which ADLER-32 leaves out", grey(1, 1, zlib(fixed(0, 5, 5), ZERO_FIVE)), 5, 33);
        byte[] great = new byte[24 * 97];
        byte[] file = png(header(24, 24, 6), chunk("IDAT", packed(great)));
        read("24 by 24 of R G B A", 24, 24, file);
        dueFault("one more", png(header(24, 24, 6), chunk("IDAT", packed(new byte[24 * 97 + 1]))), 5, 33);
        dueFault("one fewer", png(header(24, 24, 6), chunk("IDAT", packed(new byte[24 * 97 - 1]))), 5, 33);
        for (int y = 0; y < 3; y++) {
            for (int filter : new int[] {0, 1, 4, 5, 6, 128, 255}) {
                byte[] three = new byte[6];
                three[2 * y] = (byte) filter;
                if (filter < 5) {
                    read("filter " + filter + " in row " + y, 1, 3, grey(1, 3, packed(three)));
                } else {
                    dueFault("filter " + filter + " in row " + y, grey(1, 3, packed(three)), 5, 33);
                }
            }
        }
        PictureStudio s = Check.studio(1, 1);
        Check.feedBytes(s, grey(1, 1, zlib(block(true, 3).bytes(), ZERO_FIVE)));
        Check.faulty("a wrong one", s, () -> s.png(), 5, 33);
        Check.feedBytes(s, right());
        Check.due("then a right one", s.png(), 0);
        Check.dueColour("then a right one", s.pixel(0, 0, 0), Check.grey(5));
    }

    /** Each code of a length and of a distance, at its least and its greatest number. */
    private static void lengthsAndDistances() {
        for (int k = 0; k <= 28; k++) {
            for (int n : new int[] {lengthBase(k), Math.min(k == 28 ? 258 : 257, lengthBase(k) + (1 << lengthExtra(k)) - 1)}) {
                int[] tokens = new int[600 - n + 2];
                tokens[1] = -n;
                tokens[2] = 1;
                dueRows("a match of " + n, 24, block(true, 1).tokens(fixedLiterals(), fixedDistances(), tokens).symbol(fixedLiterals(), 256),
                    new byte[600]);
            }
        }
        byte[] rows = new byte[2328];
        new Random(5).nextBytes(rows);
        for (int y = 0; y < 24; y++) {
            rows[97 * y] = 0;
        }
        for (int k = 0; k <= 22; k++) {
            for (int d : new int[] {distanceBase(k), Math.min(2325, distanceBase(k) + (1 << distanceExtra(k)) - 1)}) {
                dueDistance(rows, d);
            }
        }
        int[] tokens = new int[2327];
        for (int i = 0; i < 2325; i++) {
            tokens[i] = rows[i] & 255;
        }
        tokens[2325] = -3;
        tokens[2326] = 2326;
        dueFault("a distance of 2326", png(header(24, 24, 6), chunk("IDAT", zlib(fixed(tokens), rows))), 5, 33);
    }

    private static void dueDistance(byte[] bytes, int d) {
        byte[] rows = bytes.clone();
        int[] tokens = new int[2327];
        for (int i = 0; i < 2325; i++) {
            tokens[i] = rows[i] & 255;
        }
        tokens[2325] = -3;
        tokens[2326] = d;
        for (int i = 2325; i < 2328; i++) {
            rows[i] = rows[i - d];
        }
        PictureStudio s = read("a distance of " + d, 24, 24, png(header(24, 24, 6), chunk("IDAT", zlib(fixed(tokens), rows))));
        int due = Told.colour(rows[2327] & 255, rows[2324] & 255, rows[2325] & 255, rows[2326] & 255);
        Check.dueColour("a distance of " + d, s.pixel(0, 23, 23), due);
    }

    // ---- Colours and sizes

    private static void indices() {
        byte[] all = new byte[768];
        for (int i = 0; i < 768; i++) {
            all[i] = (byte) (i * 7);
        }
        byte[] plte = chunk("PLTE", all);
        byte[] clear = new byte[256];
        for (int i = 0; i < 256; i++) {
            clear[i] = (byte) (255 - i);
        }
        clear[255] = 9;
        byte[] idat = chunk("IDAT", packed(bytes(0, 255, 0, 254, 1)));
        PictureStudio s = read("index 255 of 256", 4, 1, png(header(4, 1, 3), plte, chunk("tRNS", clear), idat));
        int[] index = {255, 0, 254, 1};
        for (int x = 0; x < 4; x++) {
            int i = index[x];
            Check.dueColour("index " + i, s.pixel(0, x, 0),
                Told.colour(clear[i] & 255, all[3 * i] & 255, all[3 * i + 1] & 255, all[3 * i + 2] & 255));
        }
        for (int many : new int[] {1, 2, 255, 256}) {
            byte[] some = chunk("PLTE", Arrays.copyOf(all, 3 * many));
            read("the last of " + many, 1, 1, png(header(1, 1, 3), some, chunk("IDAT", packed(bytes(0, many - 1)))));
            if (many < 256) {
                dueFault("one beyond " + many, png(header(1, 1, 3), some, chunk("IDAT", packed(bytes(0, many)))), 6, 33 + some.length);
            }
        }
        byte[] two = chunk("PLTE", bytes(1, 2, 3, 4, 5, 6));
        byte[] text = chunk("tEXt");
        dueFault("the last pixel", png(header(3, 2, 3), two, chunk("IDAT", packed(bytes(0, 0, 1, 1, 0, 1, 0, 2)))), 6, 33 + two.length);
        dueFault("beyond the DOCUMENT", png(header(5, 1, 3), two, text, chunk("IDAT", packed(bytes(0, 0, 1, 1, 0, 2)))), 6,
            33 + two.length + text.length);
        dueFault("made by a filter", png(header(3, 1, 3), two, chunk("IDAT", packed(bytes(1, 1, 0, 1)))), 6, 33 + two.length);
        read("no longer by a filter", 3, 1, png(header(3, 1, 3), two, chunk("IDAT", packed(bytes(1, 1, 255, 1)))));
        byte[] one = chunk("PLTE", bytes(1, 2, 3));
        for (int filter = 0; filter < 5; filter++) {
            byte[] rows = bytes(filter, 0, 0, filter, 0, 0, filter, 0, 0);
            read("the rows' filters are no indices", 2, 3, png(header(2, 3, 3), one, chunk("IDAT", packed(rows))));
        }
    }

    private static void bytesBehind() {
        byte[] idat = chunk("IDAT", packed(ZERO_FIVE));
        byte[] wrong = chunk("IDAT", bytes(1, 2, 3));
        byte[] one = chunk("PLTE", bytes(1, 2, 3));
        byte[][] files = {png(header(1, 1, 0), idat), png(header(1, 1, 0)), png(header(1, 1, 3), idat), png(header(1, 1, 0), wrong),
            png(header(1, 1, 3), one, idat)};
        int[] sorts = {0, 4, 4, 5, 6};
        int[] places = {0, 33, 33 + idat.length, 33, 33 + one.length};
        for (int i = 0; i < files.length; i++) {
            if (i == 0) {
                read("nothing behind", 1, 1, files[0]);
            } else {
                dueFault("nothing behind", files[i], sorts[i], places[i]);
            }
            for (int many : new int[] {1, 2, 12, 40}) {
                dueFault(many + " bytes behind, ahead of " + sorts[i], join(files[i], new byte[many]), 1, files[i].length);
            }
            dueFault("a CHUNK behind, ahead of " + sorts[i], join(files[i], chunk("IEND")), 1, files[i].length);
        }
        byte[] early = join(SIGNATURE, header(1, 1, 0), chunk("IEND"), idat, chunk("IEND"));
        dueFault("IDAT behind IEND", early, 1, 45);
    }

    private static void otherChunks() {
        byte[] idat = chunk("IDAT", packed(ZERO_FIVE));
        PictureStudio s = read("others", 1, 1, png(header(1, 1, 0), chunk("gAMA", bytes(1, 2, 3, 4)), chunk("idat", bytes(9)), chunk("plte", bytes(9)),
            idat, chunk("iend", bytes(9)), chunk("ABCD", new byte[300]), chunk("ihdr", bytes(9))));
        Check.dueColour("passed over", s.pixel(0, 0, 0), Check.grey(5));
        byte[] other = chunk("gAMA", bytes(1, 2, 3, 4));
        other[9] ^= 1;
        dueFault("its CRC counts", png(header(1, 1, 0), other, idat), 2, 33);
        byte[] full = grey(1, 1, packed(ZERO_FIVE));
        byte[] wide = png(header(1, 1, 0), chunk("ABCD", new byte[8000 - full.length - 12]), idat);
        Check.due("8000 bytes", wide.length, 8000);
        PictureStudio g = Check.studio(1, 1);
        Check.feedBytes(g, wide);
        Check.due("as many as INPUT holds", g.count(8), 8000);
        Check.due("as many as INPUT holds", g.png(), 0);
    }

    private static void clearColours() {
        byte[] idat = chunk("IDAT", packed(bytes(0, 0, 1, 2)));
        byte[] three = chunk("PLTE", bytes(1, 2, 3, 4, 5, 6, 7, 8, 9));
        byte[] others = chunk("PLTE", bytes(11, 12, 13, 14, 15, 16, 17, 18, 19));
        byte[] head = header(3, 1, 3);
        byte[] two = chunk("tRNS", bytes(0, 128));
        Check.duePixels("none", read("none", 3, 1, png(head, three, idat)), 0, 0xFF010203, 0xFF040506, 0xFF070809);
        Check.duePixels("of the first two", read("two", 3, 1, png(head, three, two, idat)), 0, 0x00010203, 0x80040506, 0xFF070809);
        Check.duePixels("the latest one alone", read("two tRNS", 3, 1, png(head, three, two, chunk("tRNS", bytes(7)), idat)), 0, 0x07010203,
            0xFF040506, 0xFF070809);
        Check.duePixels("the latest one is empty", read("two tRNS", 3, 1, png(head, three, two, chunk("tRNS"), idat)), 0, 0xFF010203,
            0xFF040506, 0xFF070809);
        Check.duePixels("a PLTE behind it", read("two PLTE", 3, 1, png(head, three, two, others, idat)), 0, 0x000B0C0D, 0x800E0F10, 0xFF111213);
        Check.duePixels("behind IDAT, too", read("behind", 3, 1, png(head, idat, three, two)), 0, 0x00010203, 0x80040506, 0xFF070809);
        byte[] long6 = chunk("tRNS", new byte[300]);
        int[] sorts = {0, 2, 4, 6};
        int[] wide = {1, 3, 2, 4};
        for (int i = 0; i < 4; i++) {
            byte[] rows = new byte[1 + wide[i]];
            Arrays.fill(rows, 1, rows.length, (byte) 200);
            PictureStudio s = read("colour " + sorts[i], 1, 1, png(header(1, 1, sorts[i]), long6, chunk("IDAT", packed(rows))));
            Check.dueColour("passed over with colour " + sorts[i], s.pixel(0, 0, 0), i < 2 ? 0xFFC8C8C8 : 0xC8C8C8C8);
        }
        PictureStudio t = read("first one with tRNS", 3, 1, png(head, three, two, idat));
        Check.feedBytes(t, png(head, three, idat));
        t.png();
        Check.duePixels("not by the file before", t, 1, 0xFF010203, 0xFF040506, 0xFF070809);
    }

    private static void colours() {
        int[] sorts = {0, 2, 4, 6};
        int[] wide = {1, 3, 2, 4};
        for (int i = 0; i < 4; i++) {
            for (int[] size : new int[][] {{1, 1}, {3, 2}, {24, 24}}) {
                int w = size[0];
                int h = size[1];
                int n = wide[i];
                byte[] rows = new byte[h * (1 + n * w)];
                new Random(i).nextBytes(rows);
                int[] due = new int[w * h];
                for (int y = 0; y < h; y++) {
                    rows[y * (1 + n * w)] = 0;
                    for (int x = 0; x < w; x++) {
                        int at = y * (1 + n * w) + 1 + n * x;
                        int g = n < 3 ? rows[at] & 255 : rows[at + 1] & 255;
                        int b = n < 3 ? rows[at] & 255 : rows[at + 2] & 255;
                        if (n == 2 || n == 4) {
                            rows[at + n - 1] |= 1;
                        }
                        due[y * w + x] = Told.colour(n % 2 == 0 ? rows[at + n - 1] & 255 : 255, rows[at] & 255, g, b);
                    }
                }
                PictureStudio s = read("colour " + sorts[i], w, h, png(header(w, h, sorts[i]), chunk("IDAT", packed(rows))));
                Check.due("colour " + sorts[i] + " of " + w + " by " + h, s.hash(), Check.hash(due));
            }
        }
        PictureStudio a = read("A 0", 2, 1, png(header(2, 1, 4), chunk("IDAT", packed(bytes(0, 9, 0, 8, 255)))));
        Check.duePixels("samples of what isn't there", a, 0, 0x00090909, 0xFF080808);
    }

    private static void sizes() {
        int[][] cases = {{1, 1, 3, 3}, {3, 3, 1, 1}, {2, 3, 3, 2}, {3, 2, 2, 3}, {3, 3, 3, 3}, {5, 1, 1, 5}, {24, 24, 3, 2}};
        for (int[] c : cases) {
            int w = c[0];
            int h = c[1];
            int[] colours = new int[w * h];
            for (int i = 0; i < colours.length; i++) {
                colours[i] = 0xFF000001 + i;
            }
            PictureStudio s = Check.studio(c[2], c[3]);
            s.layer(1, -1, 0);
            s.layer(2, 0, 0);
            Check.feedBytes(s, picture(w, h, colours));
            Check.due("its number", s.png(), 2);
            for (int i = 0; i < c[2] * c[3]; i++) {
                int x = i % c[2];
                int y = i / c[2];
                Check.dueColour(w + " by " + h + " in " + c[2] + " by " + c[3], s.pixel(2, x, y), x < w && y < h ? colours[y * w + x] : 0);
            }
            Check.due("the highest", s.about(2, 2), 1);
            Check.due("of the DOCUMENT", s.about(2, 1), -1);
        }
        PictureStudio s = Check.studio(24, 24);
        int[] all = new int[576];
        Arrays.fill(all, 0xFF123456);
        Check.picture(s, all);
        Check.due("24 by 24", s.hash(), Check.hash(all));
    }

    private static void number() {
        PictureStudio s = Check.studio(1, 1);
        for (int i = 0; i < 29; i++) {
            s.layer(1, -1, 0);
        }
        Check.feedBytes(s, right());
        Check.due("the last number", s.png(), 29);
        Check.due("an EDIT", s.count(3), 24);
        Check.feedBytes(s, right());
        Check.full("none is left", () -> s.png());
        s.feed(1, 2, 3, 4, 5);
        Check.full("FULL ahead of the FAULT", () -> s.png());
        Check.due("no FAULT", s.fault(0), 0);
        s.undo();
        Check.feedBytes(s, NOTHING);
        Check.faulty("nothing", s, () -> s.png(), 1, 0);
        Check.due("what was undone can be done again", s.redo(), 24);
    }
}
