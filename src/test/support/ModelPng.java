import java.io.ByteArrayOutputStream;
import java.util.Arrays;
import java.util.zip.Adler32;
import java.util.zip.CRC32;

/** A PNG file read by the words of the document: a FAULT and its place, or a picture. */
final class ModelPng {
    private static final int[] ORDER = {16, 17, 18, 0, 8, 7, 9, 6, 10, 5, 11, 4, 12, 3, 13, 2, 14, 1, 15};
    int fault;
    int place;
    int w;
    int h;
    int[] colours;
    private final byte[] file;
    private int colour = -1;
    private byte[] plte;
    private byte[] trns = {};
    private int firstIdat = -1;
    private final ByteArrayOutputStream idat = new ByteArrayOutputStream();
    private byte[] packed;
    private int bit;
    private byte[] rows;
    private int made;

    /** Ends the reading where something is wrong. */
    private static final class Wrong extends RuntimeException {
        private static final long serialVersionUID = 1;
    }

    ModelPng(byte[] file) {
        this.file = file;
        try {
            read();
        } catch (Wrong e) {
            fault = fault == 0 ? 5 : fault;
            place = fault == 5 ? firstIdat : place;
        }
    }

    private void wrong(boolean so, int sort, int where) {
        if (so) {
            fault = sort;
            place = where;
            throw new Wrong();
        }
    }

    private static void wrong(boolean so) {
        if (so) {
            throw new Wrong();
        }
    }

    private void read() {
        wrong(!Arrays.equals(Arrays.copyOf(file, 8), PngFile.SIGNATURE), 1, 0);
        int at = 8;
        int last = 0;
        String name = "";
        while (!name.equals("IEND")) {
            wrong(at + 12 > file.length, 1, at);
            long size = four(at) & 0xFFFFFFFFL;
            wrong(at + 12 + size > file.length, 1, at);
            byte[] named = Arrays.copyOfRange(file, at + 4, at + 8 + (int) size);
            CRC32 sum = new CRC32();
            sum.update(named);
            wrong((int) sum.getValue() != four(at + 8 + (int) size), 2, at);
            name = new String(named, 0, 4, java.nio.charset.StandardCharsets.ISO_8859_1);
            chunk(name, Arrays.copyOfRange(named, 4, named.length), at);
            last = at;
            at += 12 + (int) size;
        }
        wrong(at != file.length, 1, at);
        wrong(firstIdat < 0 || colour == 3 && plte == null, 4, last);
        picture();
    }

    private int four(int at) {
        return (file[at] & 255) << 24 | (file[at + 1] & 255) << 16 | (file[at + 2] & 255) << 8 | file[at + 3] & 255;
    }

    private void chunk(String name, byte[] data, int at) {
        wrong(name.equals("IHDR") == colour >= 0, 3, at);
        if (name.equals("IHDR")) {
            wrong(data.length != 13, 3, at);
            w = four(at + 8);
            h = four(at + 12);
            wrong(w < 1 || w > 24 || h < 1 || h > 24 || data[8] != 8 || data[10] != 0 || data[11] != 0 || data[12] != 0, 3, at);
            colour = data[9];
            wrong(colour != 0 && colour != 2 && colour != 3 && colour != 4 && colour != 6, 3, at);
        } else if (name.equals("PLTE")) {
            wrong(data.length < 3 || data.length > 768 || data.length % 3 != 0, 4, at);
            plte = data;
        } else if (name.equals("tRNS") && colour == 3) {
            wrong(data.length > (plte == null ? 0 : plte.length / 3), 4, at);
            trns = data;
        } else if (name.equals("IDAT")) {
            firstIdat = firstIdat < 0 ? at : firstIdat;
            idat.writeBytes(data);
        }
    }

    // ---- The rows

    private void picture() {
        int wide = colour == 2 ? 3 : colour == 4 ? 2 : colour == 6 ? 4 : 1;
        packed = idat.toByteArray();
        rows = new byte[h * (1 + w * wide)];
        inflate();
        colours = new int[w * h];
        int[] above = new int[w * wide];
        boolean beyond = false;
        for (int y = 0; y < h; y++) {
            above = row(y * (1 + w * wide), above, wide);
            for (int x = 0; x < w; x++) {
                beyond |= colour == 3 && above[x] >= plte.length / 3;
                colours[y * w + x] = beyond ? 0 : told(Arrays.copyOfRange(above, x * wide, x * wide + wide));
            }
        }
        wrong(beyond, 6, firstIdat);
    }

    private int[] row(int at, int[] above, int wide) {
        wrong(rows[at] < 0 || rows[at] > 4);
        int[] all = new int[above.length];
        for (int k = 0; k < all.length; k++) {
            int a = k < wide ? 0 : all[k - wide];
            int b = above[k];
            int c = k < wide ? 0 : above[k - wide];
            int p = a + b - c;
            int near = Math.min(Math.abs(p - a), Math.min(Math.abs(p - b), Math.abs(p - c)));
            int paeth = Math.abs(p - a) == near ? a : Math.abs(p - b) == near ? b : c;
            all[k] = rows[at + 1 + k] + new int[] {0, a, b, (a + b) / 2, paeth}[rows[at]] & 255;
        }
        return all;
    }

    private int told(int[] v) {
        switch (colour) {
            case 2: return Told.colour(255, v[0], v[1], v[2]);
            case 3: return Told.colour(v[0] < trns.length ? trns[v[0]] & 255 : 255, plte[3 * v[0]] & 255,
                plte[3 * v[0] + 1] & 255, plte[3 * v[0] + 2] & 255);
            case 6: return Told.colour(v[3], v[0], v[1], v[2]);
            default: return Told.colour(colour == 4 ? v[1] : 255, v[0], v[0], v[0]);
        }
    }

    // ---- DEFLATE

    private int number(int many) {
        int all = 0;
        for (int k = 0; k < many; k++) {
            wrong(bit >= 8 * packed.length);
            all |= (packed[bit / 8] >> bit % 8 & 1) << k;
            bit++;
        }
        return all;
    }

    private void emit(int v) {
        wrong(made >= rows.length);
        rows[made] = (byte) v;
        made++;
    }

    private void inflate() {
        int first = number(8);
        int second = number(8);
        wrong(first != 120 || (256 * first + second) % 31 != 0 || (second & 32) != 0);
        boolean last = false;
        while (!last) {
            last = number(1) == 1;
            int sort = number(2);
            wrong(sort == 3);
            if (sort == 0) {
                stored();
            } else if (sort == 1) {
                block(PngFile.fixedLiterals(), PngFile.fixedDistances());
            } else {
                told();
            }
        }
        bit = (bit + 7) / 8 * 8;
        int sum = number(8) << 24 | number(8) << 16 | number(8) << 8 | number(8);
        Adler32 due = new Adler32();
        due.update(rows);
        wrong(bit != 8 * packed.length || made != rows.length || sum != (int) due.getValue());
    }

    private void stored() {
        bit = (bit + 7) / 8 * 8;
        int many = number(16);
        wrong(number(16) != 65535 - many);
        for (int i = 0; i < many; i++) {
            emit(number(8));
        }
    }

    private void told() {
        int literals = 257 + number(5);
        int distances = 1 + number(5);
        int many = 4 + number(4);
        wrong(literals > 286 || distances > 30);
        int[] codes = new int[19];
        for (int i = 0; i < many; i++) {
            codes[ORDER[i]] = number(3);
        }
        wrong(!areRight(codes, false));
        int[] lengths = new int[literals + distances];
        int at = 0;
        while (at < lengths.length) {
            int s = symbol(codes);
            wrong(s == 16 && at == 0);
            int v = s < 16 ? s : s == 16 ? lengths[at - 1] : 0;
            int again = s < 16 ? 1 : s == 16 ? 3 + number(2) : s == 17 ? 3 + number(3) : 11 + number(7);
            wrong(at + again > lengths.length);
            Arrays.fill(lengths, at, at + again, v);
            at += again;
        }
        int[] first = Arrays.copyOf(lengths, literals);
        int[] second = Arrays.copyOfRange(lengths, literals, lengths.length);
        wrong(first[256] == 0 || !areRight(first, false) || !areRight(second, true));
        block(first, second);
    }

    /** Not too many codes, nor too few but for just one of length 1 (or none, of distances). */
    private static boolean areRight(int[] lengths, boolean mayBeNone) {
        int many = 0;
        int room = 32768;
        for (int n : lengths) {
            many += n > 0 ? 1 : 0;
            room -= n > 0 ? 32768 >> n : 0;
        }
        return room == 0 || many == 1 && room == 16384 || many == 0 && mayBeNone;
    }

    private int symbol(int[] lengths) {
        int code = 0;
        int first = 0;
        for (int n = 1; n <= 15; n++) {
            code = 2 * code + number(1);
            first *= 2;
            for (int s = 0; s < lengths.length; s++) {
                if (lengths[s] == n && first++ == code) {
                    return s;
                }
            }
        }
        throw new Wrong();
    }

    private void block(int[] literals, int[] distances) {
        for (int s = symbol(literals); s != 256; s = symbol(literals)) {
            if (s < 256) {
                emit(s);
                continue;
            }
            wrong(s > 285);
            int many = PngFile.lengthBase(s - 257) + number(PngFile.lengthExtra(s - 257));
            int d = symbol(distances);
            wrong(d > 29);
            int far = PngFile.distanceBase(d) + number(PngFile.distanceExtra(d));
            wrong(far > made);
            for (int i = 0; i < many; i++) {
                emit(rows[made - far]);
            }
        }
    }
}
