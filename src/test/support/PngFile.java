import java.io.ByteArrayOutputStream;
import java.util.Arrays;
import java.util.zip.Adler32;
import java.util.zip.CRC32;
import java.util.zip.Deflater;

/** PNG files made CHUNK by CHUNK, right and wrong ones; tests of them are classes below this one. */
class PngFile {
    static final byte[] SIGNATURE = {(byte) 137, 80, 78, 71, 13, 10, 26, 10};
    static final byte[] NOTHING = {};

    static byte[] join(byte[]... parts) {
        ByteArrayOutputStream all = new ByteArrayOutputStream();
        for (byte[] part : parts) {
            all.writeBytes(part);
        }
        return all.toByteArray();
    }

    static byte[] bytes(int... values) {
        byte[] all = new byte[values.length];
        for (int i = 0; i < all.length; i++) {
            all[i] = (byte) values[i];
        }
        return all;
    }

    static byte[] four(long v) {
        return bytes((int) (v >> 24), (int) (v >> 16), (int) (v >> 8), (int) v);
    }

    static byte[] chunk(String name, byte... data) {
        byte[] named = join(name.getBytes(), data);
        CRC32 sum = new CRC32();
        sum.update(named);
        return join(four(data.length), named, four(sum.getValue()));
    }

    static byte[] header(int w, int h, int colour) {
        return chunk("IHDR", join(four(w), four(h), bytes(8, colour, 0, 0, 0)));
    }

    static byte[] png(byte[]... chunks) {
        return join(SIGNATURE, join(chunks), chunk("IEND"));
    }

    static byte[] packed(byte... rows) {
        Deflater d = new Deflater(9);
        d.setInput(rows);
        d.finish();
        byte[] all = new byte[4000];
        return Arrays.copyOf(all, d.deflate(all));
    }

    static byte[] grey(int w, int h, byte[] zipped) {
        return png(header(w, h, 0), chunk("IDAT", zipped));
    }

    /** Two bytes of zlib, a stream of DEFLATE, and ADLER-32 of what it makes. */
    static byte[] zlib(byte[] deflated, byte... rows) {
        Adler32 sum = new Adler32();
        sum.update(rows);
        return join(bytes(120, 1), deflated, four(sum.getValue()));
    }

    /** DEFLATE from numbers: each value is followed by how many bits it has; codes are told by a length below 0. */
    static byte[] bits(int... told) {
        Bits all = new Bits();
        for (int i = 0; i < told.length; i += 2) {
            if (told[i + 1] < 0) {
                all.code(told[i], -told[i + 1]);
            } else {
                all.number(told[i], told[i + 1]);
            }
        }
        return all.bytes();
    }

    /** Bits of DEFLATE, one behind another. */
    static final class Bits {
        private static final int[] ORDER = {16, 17, 18, 0, 8, 7, 9, 6, 10, 5, 11, 4, 12, 3, 13, 2, 14, 1, 15};
        private final byte[] all = new byte[9000];
        private int at;

        /** From its lowest bit on. */
        Bits number(int v, int many) {
            for (int k = 0; k < many; k++) {
                all[at >> 3] |= (v >> k & 1) << (at & 7);
                at++;
            }
            return this;
        }

        /** From its highest bit on. */
        Bits code(int v, int many) {
            for (int k = many - 1; k >= 0; k--) {
                number(v >> k & 1, 1);
            }
            return this;
        }

        /** The symbol's code by the lengths of all codes. */
        Bits symbol(int[] lengths, int s) {
            int code = 0;
            for (int n = 1; n <= lengths[s]; n++) {
                code <<= 1;
                for (int i = 0; i < lengths.length; i++) {
                    code += lengths[i] == n && (n < lengths[s] || i < s) ? 1 : 0;
                }
            }
            return code(code, lengths[s]);
        }

        /** Literals as they are, matches as minus the length, then the distance. */
        Bits tokens(int[] literals, int[] distances, int... tokens) {
            for (int i = 0; i < tokens.length; i++) {
                if (tokens[i] >= 0) {
                    symbol(literals, tokens[i]);
                } else {
                    length(literals, -tokens[i]);
                    i++;
                    distance(distances, tokens[i]);
                }
            }
            return this;
        }

        private void length(int[] literals, int n) {
            int k = n == 258 ? 28 : 27;
            while (n < 258 && lengthBase(k) > n) {
                k--;
            }
            symbol(literals, 257 + k).number(n - lengthBase(k), lengthExtra(k));
        }

        private void distance(int[] distances, int d) {
            int k = 29;
            while (distanceBase(k) > d) {
                k--;
            }
            symbol(distances, k).number(d - distanceBase(k), distanceExtra(k));
        }

        /** The lengths of the codes for lengths, as many as are told. */
        Bits orders(int[] lengths, int many) {
            number(many - 4, 4);
            for (int i = 0; i < many; i++) {
                number(lengths[ORDER[i]], 3);
            }
            return this;
        }

        /** Symbols for lengths; each is followed by its number above its least one (0 for those without). */
        Bits lengths(int[] codes, int... symbols) {
            for (int i = 0; i < symbols.length; i += 2) {
                int s = symbols[i];
                symbol(codes, s).number(symbols[i + 1], s == 16 ? 2 : s == 17 ? 3 : s == 18 ? 7 : 0);
            }
            return this;
        }

        /** Up to the next byte. */
        Bits whole() {
            at = (at + 7) / 8 * 8;
            return this;
        }

        Bits stored(boolean last, byte... bytes) {
            number(last ? 1 : 0, 3).whole().number(bytes.length, 16).number(~bytes.length, 16);
            for (byte b : bytes) {
                number(b, 8);
            }
            return this;
        }

        byte[] bytes() {
            return Arrays.copyOf(all, (at + 7) / 8);
        }
    }

    static int lengthExtra(int k) {
        return k < 8 || k == 28 ? 0 : k / 4 - 1;
    }

    static int lengthBase(int k) {
        return k == 28 ? 258 : k < 8 ? 3 + k : 3 + (4 + k % 4 << lengthExtra(k));
    }

    static int distanceExtra(int k) {
        return k < 4 ? 0 : k / 2 - 1;
    }

    static int distanceBase(int k) {
        return k < 4 ? 1 + k : 1 + (2 + k % 2 << distanceExtra(k));
    }

    /** The lengths of the fixed codes. */
    static int[] fixedLiterals() {
        int[] all = new int[288];
        for (int i = 0; i < 288; i++) {
            all[i] = i < 144 ? 8 : i < 256 ? 9 : i < 280 ? 7 : 8;
        }
        return all;
    }

    static int[] fixedDistances() {
        int[] all = new int[32];
        Arrays.fill(all, 5);
        return all;
    }

    /** One last block of fixed codes, with its end. */
    static byte[] fixed(int... tokens) {
        return new Bits().number(3, 3).tokens(fixedLiterals(), fixedDistances(), tokens).symbol(fixedLiterals(), 256).bytes();
    }

    /** A file of R G B A whose rows have no filter. */
    static byte[] picture(int w, int h, int... colours) {
        byte[] rows = new byte[h * (1 + 4 * w)];
        for (int i = 0; i < w * h; i++) {
            int at = i / w * (1 + 4 * w) + 1 + i % w * 4;
            rows[at] = (byte) (colours[i] >> 16);
            rows[at + 1] = (byte) (colours[i] >> 8);
            rows[at + 2] = (byte) colours[i];
            rows[at + 3] = (byte) (colours[i] >> 24);
        }
        return png(header(w, h, 6), chunk("IDAT", packed(rows)));
    }

    /** All bytes of OUT. */
    static byte[] out(PictureStudio s) {
        byte[] all = new byte[(int) s.octets(-1)];
        long eight = 0;
        for (int i = 0; i < all.length; i++) {
            eight = i % 8 == 0 ? s.octets(i) : eight;
            all[i] = (byte) (eight >> 56 - i % 8 * 8);
        }
        return all;
    }

    /** The file that made promises, byte by byte as the document tells it. */
    static byte[] made(int w, int h, int... colours) {
        byte[] rows = new byte[h * (1 + 4 * w)];
        for (int y = 0; y < h; y++) {
            int best = -1;
            int least = 0;
            byte[] row = null;
            for (int f = 0; f < 5; f++) {
                byte[] tried = row(f, w, y, colours);
                int sum = 0;
                for (byte b : tried) {
                    sum += Math.abs(b);
                }
                if (best < 0 || sum < least) {
                    best = f;
                    least = sum;
                    row = tried;
                }
            }
            rows[y * (1 + 4 * w)] = (byte) best;
            System.arraycopy(row, 0, rows, y * (1 + 4 * w) + 1, 4 * w);
        }
        return png(header(w, h, 6), chunk("IDAT", zlib(fixed(matches(rows)), rows)));
    }

    private static int sample(int w, int k, int y, int... colours) {
        return k < 0 || y < 0 ? 0 : colours[y * w + k / 4] >>> new int[] {16, 8, 0, 24}[k % 4] & 255;
    }

    private static byte[] row(int filter, int w, int y, int... colours) {
        byte[] all = new byte[4 * w];
        for (int k = 0; k < 4 * w; k++) {
            int a = sample(w, k - 4, y, colours);
            int b = sample(w, k, y - 1, colours);
            int c = sample(w, k - 4, y - 1, colours);
            int p = a + b - c;
            int near = Math.min(Math.abs(p - a), Math.min(Math.abs(p - b), Math.abs(p - c)));
            int paeth = Math.abs(p - a) == near ? a : Math.abs(p - b) == near ? b : c;
            all[k] = (byte) (sample(w, k, y, colours) - new int[] {0, a, b, (a + b) / 2, paeth}[filter]);
        }
        return all;
    }

    /** From left to right the longest match, the nearest of these, else the byte. */
    static int[] matches(byte... rows) {
        int[] all = new int[rows.length];
        int many = 0;
        for (int at = 0; at < rows.length;) {
            int longest = 0;
            int nearest = 0;
            for (int d = 1; d <= at; d++) {
                int n = 0;
                while (n < 258 && at + n < rows.length && rows[at + n] == rows[at + n - d]) {
                    n++;
                }
                nearest = n > longest ? d : nearest;
                longest = Math.max(longest, n);
            }
            if (longest < 3) {
                all[many++] = rows[at++] & 255;
            } else {
                all[many++] = -longest;
                all[many++] = nearest;
                at += longest;
            }
        }
        return Arrays.copyOf(all, many);
    }
}
