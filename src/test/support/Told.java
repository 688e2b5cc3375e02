import java.util.ArrayList;
import java.util.Arrays;
import java.util.List;

/** The document's arithmetic, word for word and slowly, where answers are too many to be written out. */
final class Told {
    private Told() {
    }

    static int clip(int v) {
        return Math.max(0, Math.min(255, v));
    }

    static int mul(int a, int b) {
        return (a * b + 127) / 255;
    }

    static int mix(int a, int b, int t) {
        return (a * (255 - t) + b * t + 127) / 255;
    }

    static int root(int n) {
        int r = 0;
        while ((r + 1) * (r + 1) <= n) {
            r++;
        }
        return r;
    }

    /** Sample k of a COLOUR: 0 R, 1 G, 2 B, 3 A. */
    static int sample(int c, int k) {
        return c >>> (k == 3 ? 24 : 16 - 8 * k) & 255;
    }

    static int colour(int a, int r, int g, int b) {
        return a << 24 | r << 16 | g << 8 | b;
    }

    static int y(int c) {
        return 77 * sample(c, 0) + 151 * sample(c, 1) + 28 * sample(c, 2) >> 8;
    }

    static int mixed(int b, int c, int t) {
        return colour(mix(sample(b, 3), sample(c, 3), t), mix(sample(b, 0), sample(c, 0), t),
            mix(sample(b, 1), sample(c, 1), t), mix(sample(b, 2), sample(c, 2), t));
    }

    /** MODE(b, s) of samples; ys, yb are Y of the whole COLOURS. */
    static int mode(int mode, int b, int s, int yb, int ys) {
        switch (mode) {
            case 0: return s;
            case 1: return mul(b, s);
            case 2: return b + s - mul(b, s);
            case 3: return mode(8, s, b, ys, yb);
            case 4: return Math.min(b, s);
            case 5: return Math.max(b, s);
            case 6: return b == 0 ? 0 : s == 255 ? 255 : Math.min(255, 255 * b / (255 - s));
            case 7: return b == 255 ? 255 : s == 0 ? 0 : 255 - Math.min(255, 255 * (255 - b) / s);
            case 8:
                int v = 2 * s - 255;
                return s < 128 ? mul(2 * s, b) : b + v - mul(b, v);
            case 9: return Math.abs(b - s);
            case 10: return b + s - 2 * mul(b, s);
            case 11: return Math.min(255, b + s);
            case 12: return Math.max(0, b - s);
            case 13: return clip(mul(255 - b, mul(b, s)) + mul(b, b + s - mul(b, s)));
            case 14: return clip(b + ys - yb);
            default: return clip(s + yb - ys);
        }
    }

    /** COLOUR s, there by e, over b by a mode. */
    static int over(int b, int s, int e, int mode) {
        int under = sample(b, 3);
        int den = 255 * e + (255 - e) * under;
        if (den == 0) {
            return 0;
        }
        int[] all = new int[3];
        for (int k = 0; k < 3; k++) {
            int t = mix(sample(s, k), mode(mode, sample(b, k), sample(s, k), y(b), y(s)), under);
            all[k] = (255 * e * t + (255 - e) * under * sample(b, k) + den / 2) / den;
        }
        return colour((den + 127) / 255, all[0], all[1], all[2]);
    }

    /** How the mean of COLOURS by their A is told: n is how many they are. */
    static int mean(int n, int[] colours) {
        int a = 0;
        int[] sums = new int[3];
        for (int c : colours) {
            a += sample(c, 3);
            for (int k = 0; k < 3; k++) {
                sums[k] += sample(c, k) * sample(c, 3);
            }
        }
        return a == 0 ? 0 : colour((a + n / 2) / n, (sums[0] + a / 2) / a, (sums[1] + a / 2) / a, (sums[2] + a / 2) / a);
    }

    // ---- FILTERS

    /** The pixels of the square of 2 n + 1 around x, y, row by row; places outside are the nearest. */
    static int[] square(int[] picture, int w, int x, int y, int n) {
        int side = 2 * n + 1;
        int h = picture.length / w;
        int[] all = new int[side * side];
        for (int i = 0; i < all.length; i++) {
            int px = Math.max(0, Math.min(w - 1, x - n + i % side));
            int py = Math.max(0, Math.min(h - 1, y - n + i / side));
            all[i] = picture[py * w + px];
        }
        return all;
    }

    static int[] filter(int kind, int n, int[] picture, int w, int[] kernel) {
        int[] all = new int[picture.length];
        for (int i = 0; i < all.length; i++) {
            all[i] = filtered(kind, n, picture, w, i, kernel);
        }
        return all;
    }

    private static int filtered(int kind, int n, int[] picture, int w, int i, int[] kernel) {
        int x = i % w;
        int y = i / w;
        int[] nine = square(picture, w, x, y, 1);
        switch (kind) {
            case 0: return mean((2 * n + 1) * (2 * n + 1), square(picture, w, x, y, n));
            case 2: return colour(fifth(nine, 3), fifth(nine, 0), fifth(nine, 1), fifth(nine, 2));
            case 5: return picture[y / n * n * w + x / n * n];
            case 12: return hue(picture[i], n);
            default: break;
        }
        int c = picture[i];
        int[] all = new int[3];
        for (int k = 0; k < 3; k++) {
            all[k] = sampleBy(kind, n, nine, k, x, y, kernel);
        }
        return colour(sample(c, 3), all[0], all[1], all[2]);
    }

    private static int fifth(int[] nine, int k) {
        int[] all = new int[9];
        for (int i = 0; i < 9; i++) {
            all[i] = sample(nine[i], k);
        }
        Arrays.sort(all);
        return all[4];
    }

    private static int sampleBy(int kind, int n, int[] nine, int k, int x, int y, int[] kernel) {
        int c = sample(nine[4], k);
        int grey = y(nine[4]);
        switch (kind) {
            case 1: return clip(c + ((c - sample(mean(9, nine), k)) * n >> 6));
            case 3:
                int g = y(nine[2]) + 2 * y(nine[5]) + y(nine[8]) - y(nine[0]) - 2 * y(nine[3]) - y(nine[6]);
                int h = y(nine[6]) + 2 * y(nine[7]) + y(nine[8]) - y(nine[0]) - 2 * y(nine[1]) - y(nine[2]);
                return Math.min(255, Math.abs(g) + Math.abs(h));
            case 4: return clip(128 + sample(nine[8], k) - sample(nine[0], k));
            case 6: return grey >= n ? 255 : 0;
            case 7:
                int q = (c * (n - 1) + 127) / 255;
                return (q * 255 + (n - 1) / 2) / (n - 1);
            case 8: return 255 - c;
            case 9: return clip(c + grain(x, y, n));
            case 10:
                int sum = 0;
                for (int i = 0; i < 9; i++) {
                    sum += kernel[i] * sample(nine[i], k);
                }
                return clip(sum / kernel[9] + kernel[10]);
            case 11: return grey;
            default: return clip(grey + ((c - grey) * n >> 6));
        }
    }

    static int grain(int x, int y, int n) {
        int h = (x * 374761393 + y * 668265263 + n) * 1274126177;
        h = (h ^ (h >>> 13)) * 1103515245;
        return (h >>> 24) % (2 * (n >> 3) + 1) - (n >> 3);
    }

    static int hue(int c, int n) {
        int r = sample(c, 0);
        int g = sample(c, 1);
        int b = sample(c, 2);
        int x = Math.max(r, Math.max(g, b));
        int w = Math.min(r, Math.min(g, b));
        int d = x - w;
        if (d == 0) {
            return c;
        }
        int h = r == x ? 256 * (g - b) / d : g == x ? 512 + 256 * (b - r) / d : 1024 + 256 * (r - g) / d;
        h = ((h + 6 * n) % 1536 + 1536) % 1536;
        int f = h % 256;
        int up = w + d * f / 256;
        int down = x - d * f / 256;
        int[][] by = {{x, up, w}, {down, x, w}, {w, x, up}, {w, down, x}, {up, w, x}, {x, w, down}};
        int[] all = by[h / 256];
        return colour(sample(c, 3), all[0], all[1], all[2]);
    }

    // ---- BRUSH

    /** cover of a stroke along POINTS (x, y, pressure each). */
    static int[] cover(int w, int h, int[] brush, int... points) {
        int[] cover = new int[w * h];
        dab(cover, w, brush, points[0], points[1], points[2]);
        int rest = 0;
        for (int i = 3; i < points.length; i += 3) {
            int dx = points[i] - points[i - 3];
            int dy = points[i + 1] - points[i - 2];
            int length = root(dx * dx + dy * dy);
            int last = -1;
            for (int d = brush[2] - rest; d <= length; d += brush[2]) {
                dab(cover, w, brush, points[i - 3] + dx * d / length, points[i - 2] + dy * d / length,
                    points[i - 1] + (points[i + 2] - points[i - 1]) * d / length);
                last = d;
            }
            rest = last < 0 ? rest + length : length - last;
        }
        return cover;
    }

    /** A brush is size, hard, spacing, flow. */
    private static void dab(int[] cover, int w, int[] brush, int x, int y, int p) {
        for (int i = 0; i < cover.length; i++) {
            int ax = 4 * (i % w) + 2 - x;
            int ay = 4 * (i / w) + 2 - y;
            int d = root(16 * (ax * ax + ay * ay));
            int r = 4 * brush[0];
            int h = r * brush[1] / 255;
            int v = d > r ? 0 : d <= h ? 255 : 255 * (r - d) / (r - h);
            cover[i] += mul(255 - cover[i], mul(v, mul(p, brush[3])));
        }
    }

    // ---- FEW colours

    /** Pixels by few colours; how many there are stands behind the last pixel. */
    static int[] few(int[] picture, int w, int n, boolean dither) {
        List<List<Integer>> boxes = new ArrayList<>();
        boxes.add(new ArrayList<>());
        for (int c : picture) {
            if (sample(c, 3) != 0) {
                boxes.get(0).add(c & 0xFFFFFF);
            }
        }
        while (boxes.size() < n && cut(boxes)) {
            continue;
        }
        int[][] colours = new int[boxes.size()][3];
        for (int i = 0; i < colours.length; i++) {
            for (int k = 0; k < 3; k++) {
                int sum = 0;
                for (int c : boxes.get(i)) {
                    sum += sample(c, k);
                }
                colours[i][k] = (sum + boxes.get(i).size() / 2) / boxes.get(i).size();
            }
        }
        int[] all = nearest(picture, w, colours, dither);
        all[picture.length] = colours.length;
        return all;
    }

    private static boolean cut(List<List<Integer>> boxes) {
        int longest = 0;
        List<Integer> box = null;
        int channel = 0;
        for (List<Integer> one : boxes) {
            for (int k = 0; k < 3; k++) {
                int least = 255;
                int most = 0;
                for (int c : one) {
                    least = Math.min(least, sample(c, k));
                    most = Math.max(most, sample(c, k));
                }
                if (most - least > longest) {
                    longest = most - least;
                    box = one;
                    channel = k;
                }
            }
        }
        if (box == null) {
            return false;
        }
        int by = channel;
        box.sort((c, d) -> sample(c, by) != sample(d, by) ? sample(c, by) - sample(d, by) : c - d);
        int h = box.size() / 2;
        int value = sample(box.get(h - 1), by);
        while (h < box.size() && sample(box.get(h), by) == value) {
            h++;
        }
        if (h == box.size()) {
            while (sample(box.get(h - 1), by) == value) {
                h--;
            }
        }
        boxes.add(new ArrayList<>(box.subList(h, box.size())));
        box.subList(h, box.size()).clear();
        return true;
    }

    private static int[] nearest(int[] picture, int w, int[][] colours, boolean dither) {
        int[] all = Arrays.copyOf(picture, picture.length + 1);
        int[][] errors = new int[picture.length][3];
        int[][] ways = {{1, 0, 7}, {-1, 1, 3}, {0, 1, 5}, {1, 1, 1}};
        for (int i = 0; i < picture.length; i++) {
            if (sample(picture[i], 3) == 0) {
                continue;
            }
            int[] c = new int[3];
            for (int k = 0; k < 3; k++) {
                c[k] = clip(sample(picture[i], k) + errors[i][k]);
            }
            int[] best = colours[0];
            for (int[] colour : colours) {
                best = apart(c, colour) < apart(c, best) ? colour : best;
            }
            all[i] = colour(sample(picture[i], 3), best[0], best[1], best[2]);
            for (int[] way : ways) {
                int x = i % w + way[0];
                int to = (i / w + way[1]) * w + x;
                for (int k = 0; k < 3 && dither && x >= 0 && x < w && to < picture.length; k++) {
                    errors[to][k] += way[2] * (c[k] - best[k]) / 16;
                }
            }
        }
        return all;
    }

    private static int apart(int[] c, int[] d) {
        int sum = 0;
        for (int k = 0; k < 3; k++) {
            sum += (c[k] - d[k]) * (c[k] - d[k]);
        }
        return sum;
    }

    // ---- PROFILES

    static int level(int sort, int c) {
        int straight = 4095 * c / 255;
        int squares = 4095 * c * c / 65025;
        return sort == 0 ? straight : sort == 1 ? squares : (straight + 3 * squares) / 4;
    }

    /** A COLOUR from one PROFILE to another: nine numbers and a sort each. */
    static int converted(int c, int[] p, int[] q) {
        long[] l = new long[3];
        long[] x = new long[3];
        for (int k = 0; k < 3; k++) {
            l[k] = level(p[9], sample(c, k));
        }
        for (int k = 0; k < 3; k++) {
            x[k] = p[3 * k] * l[0] + p[3 * k + 1] * l[1] + p[3 * k + 2] * l[2] >> 10;
        }
        int[] all = new int[3];
        for (int k = 0; k < 3; k++) {
            long sum = x[0] * cofactor(q, 0, k) + x[1] * cofactor(q, 1, k) + x[2] * cofactor(q, 2, k);
            long v = Math.max(0, Math.min(4095, sum * 1024 / determinant(q)));
            for (int d = 255; d >= 0; d--) {
                all[k] = Math.abs(level(q[9], d) - v) <= Math.abs(level(q[9], all[k]) - v) ? d : all[k];
            }
        }
        return colour(sample(c, 3), all[0], all[1], all[2]);
    }

    static long determinant(int[] q) {
        return q[0] * cofactor(q, 0, 0) + q[1] * cofactor(q, 0, 1) + q[2] * cofactor(q, 0, 2);
    }

    /** With its sign: what is left without the row and the column. */
    private static long cofactor(int[] q, int row, int column) {
        long[] left = new long[4];
        int n = 0;
        for (int i = 0; i < 9; i++) {
            if (i / 3 != row && i % 3 != column) {
                left[n] = q[i];
                n++;
            }
        }
        return (left[0] * left[3] - left[1] * left[2]) * ((row + column) % 2 == 0 ? 1 : -1);
    }

    // ---- PATHS

    /** Value at a pixel of the figures told by their corners (x, y in sixteenths), each closed, by a rule. */
    static int covered(int x, int y, int rule, int[]... figures) {
        int many = 0;
        for (int k = 0; k < 16; k++) {
            int px = 16 * x + 4 * (k % 4) + 2;
            int py = 16 * y + 4 * (k / 4) + 2;
            int turns = 0;
            for (int[] f : figures) {
                for (int i = 0; i < f.length; i += 2) {
                    turns += turn(px, py, f[i], f[i + 1], f[(i + 2) % f.length], f[(i + 3) % f.length]);
                }
            }
            many += (rule == 0 ? turns != 0 : turns % 2 != 0) ? 1 : 0;
        }
        return (255 * many + 8) / 16;
    }

    private static int turn(long x, long y, int x0, int y0, int x1, int y1) {
        if (y0 <= y == y1 <= y) {
            return 0;
        }
        long here = (x - x0) * (y1 - y0);
        long there = (y - y0) * (x1 - x0);
        return y1 > y0 ? here < there ? 1 : 0 : here > there ? -1 : 0;
    }
}
