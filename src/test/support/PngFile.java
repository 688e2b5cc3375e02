import java.io.ByteArrayOutputStream;
import java.util.Arrays;
import java.util.zip.Adler32;
import java.util.zip.CRC32;
import java.util.zip.Deflater;

/** PNG files made CHUNK by CHUNK, right and wrong ones; tests of them are classes below this one. */
class PngFile {
    static final byte[] SIGNATURE = {(byte) 137, 80, 78, 71, 13, 10, 26, 10};
    static final byte[] NOTHING = {};

    static byte[] join(byte[]... parts) {
        ByteArrayOutputStream all = new ByteArrayOutputStream();
        for (byte[] part : parts) {
            all.writeBytes(part);
        }
        return all.toByteArray();
    }

    static byte[] bytes(int... values) {
        byte[] all = new byte[values.length];
        for (int i = 0; i < all.length; i++) {
            all[i] = (byte) values[i];
        }
        return all;
    }

    static byte[] four(long v) {
        return bytes((int) (v >> 24), (int) (v >> 16), (int) (v >> 8), (int) v);
    }

    static byte[] chunk(String name, byte... data) {
        byte[] named = join(name.getBytes(), data);
        CRC32 sum = new CRC32();
        sum.update(named);
        return join(four(data.length), named, four(sum.getValue()));
    }

    static byte[] header(int w, int h, int colour) {
        return chunk("IHDR", join(four(w), four(h), bytes(8, colour, 0, 0, 0)));
    }

    static byte[] png(byte[]... chunks) {
        return join(SIGNATURE, join(chunks), chunk("IEND"));
    }

    static byte[] packed(byte... rows) {
        Deflater d = new Deflater(9);
        d.setInput(rows);
        d.finish();
        byte[] all = new byte[4000];
        return Arrays.copyOf(all, d.deflate(all));
    }

    static byte[] grey(int w, int h, byte[] zipped) {
        return png(header(w, h, 0), chunk("IDAT", zipped));
    }

    /** Two bytes of zlib, a stream of DEFLATE, and ADLER-32 of what it makes. */
    static byte[] zlib(byte[] deflated, byte... rows) {
        Adler32 sum = new Adler32();
        sum.update(rows);
        return join(bytes(120, 1), deflated, four(sum.getValue()));
    }

    /** DEFLATE from numbers: each value is followed by how many bits it has; codes are told by a length below 0. */
    static byte[] bits(int... told) {
        byte[] all = new byte[400];
        int at = 0;
        for (int i = 0; i < told.length; i += 2) {
            int many = Math.abs(told[i + 1]);
            for (int k = 0; k < many; k++) {
                int one = told[i] >> (told[i + 1] < 0 ? many - 1 - k : k) & 1;
                all[at >> 3] |= one << (at & 7);
                at++;
            }
        }
        return Arrays.copyOf(all, (at + 7) / 8);
    }

    /** A file of R G B A whose rows have no filter. */
    static byte[] picture(int w, int h, int... colours) {
        byte[] rows = new byte[h * (1 + 4 * w)];
        for (int i = 0; i < w * h; i++) {
            int at = i / w * (1 + 4 * w) + 1 + i % w * 4;
            rows[at] = (byte) (colours[i] >> 16);
            rows[at + 1] = (byte) (colours[i] >> 8);
            rows[at + 2] = (byte) colours[i];
            rows[at + 3] = (byte) (colours[i] >> 24);
        }
        return png(header(w, h, 6), chunk("IDAT", packed(rows)));
    }
}
