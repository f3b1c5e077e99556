import java.util.Arrays;
import java.util.List;
import java.util.Random;

/** Writes the blocks of a frame, all bits with chance 128, and paints on its own what they must become. */
final class Painter {
    final FrameWriter frame;
    private final int width;
    private final int height;
    private final Random random;
    private final int[][][] samples = new int[3][][];
    private final boolean[][][] known = new boolean[3][][];
    private final VideoDecoder reference;
    private int[][][] wanted;

    /** A whole picture of the samples that are wanted, LOSSLESS. */
    static FrameWriter exact(int[][]... wanted) {
        Painter painter = new Painter(wanted[0][0].length, wanted[0].length, null, 0);
        painter.wanted = wanted;
        painter.frame.base = 0;
        painter.frame.transformMode = 0;
        painter.divide(0, 0, 64);
        return painter.frame;
    }

    /** Divides as little as the size of the picture allows. */
    private void divide(int x, int y, int side) {
        int right = (width + 7) / 8 * 8;
        int bottom = (height + 7) / 8 * 8;
        if (side == 64 && (width > 64 || height > 64)) {
            throw new IllegalArgumentException("one square of 64 is all it can divide");
        }
        if (x >= right || y >= bottom) {
            return;
        }
        boolean hasRight = x + side / 2 < right;
        boolean hasLower = y + side / 2 < bottom;
        if (side == 8 || hasRight && hasLower) {
            bits(side == 8 ? "" : "0").still(x, y, side, side, 0, 0, 0, false);
        } else if (hasRight) {
            bits("0").still(x, y, side, side / 2, 0, 0, 0, false);
        } else if (hasLower) {
            bits("0").still(x, y, side / 2, side, 0, 0, 0, false);
        } else {
            divide(x, y, side / 2);
        }
    }

    /** With a decoder: a frame by references, of the picture that is in its slot 0. */
    Painter(int width, int height, VideoDecoder reference, long seed) {
        this.width = width;
        this.height = height;
        this.reference = reference;
        random = new Random(seed);
        frame = reference == null ? FrameWriter.key(width, height) : FrameWriter.inter();
        frame.transformMode = 4;
        for (int plane = 0; plane < 3; plane++) {
            int field = plane == 0 ? 64 : 32;
            int wide = (planeWide(plane) + field - 1) / field * field;
            int high = (planeHigh(plane) + field - 1) / field * field;
            samples[plane] = new int[high][wide];
            known[plane] = new boolean[high][wide];
        }
    }

    private int planeWide(int plane) {
        return plane == 0 ? width : (width + 1) / 2;
    }

    private int planeHigh(int plane) {
        return plane == 0 ? height : (height + 1) / 2;
    }

    Painter bits(String bits) {
        frame.bits(bits);
        return this;
    }

    private static String ladder(int rung, int most) {
        return "1".repeat(rung) + (rung < most ? "0" : "");
    }

    private static int rank(int side) {
        return side >= 32 ? 3 : side >= 16 ? 2 : side >= 8 ? 1 : 0;
    }

    /** A block that is not OTHER; without SKIP it has numbers that are drawn. */
    Painter still(int x, int y, int wide, int high, int size, int mode, int chroma, boolean skip) {
        int most = rank(Math.min(wide, high));
        frame.bits(skip ? "1" : "0").bits(reference == null ? "" : "0");
        frame.bits(frame.transformMode == 4 ? ladder(size, most) : "");
        frame.bits(ladder(mode, 9)).bits(ladder(chroma, 9));
        for (int plane = 0; plane < 3; plane++) {
            int half = plane == 0 ? 1 : 2;
            int its = plane == 0 ? size : Math.min(size, rank(Math.min(wide, high) / 2));
            int side = 4 << its;
            int right = Math.min(x + wide, (width + 7) / 8 * 8) / half;
            int bottom = Math.min(y + high, (height + 7) / 8 * 8) / half;
            for (int v = y / half; v < bottom; v += side) {
                for (int h = x / half; h < right; h += side) {
                    square(plane, h, v, its, plane == 0 ? mode : chroma, skip);
                }
            }
        }
        return this;
    }

    /** A block with SKIP and OTHER that has the samples of REFERENCE 0, so many samples of plane 1 away. */
    Painter other(int x, int y, int wide, int high, int byX, int byY) {
        boolean zero = byX == 0 && byY == 0;
        frame.bits("1 1 0" + (zero ? "0" : "111" + Scene.difference(16 * byX, 16 * byY, false)));
        for (int plane = 0; plane < 3; plane++) {
            int half = plane == 0 ? 1 : 2;
            for (int v = y / half; v < (y + high) / half; v++) {
                for (int h = x / half; h < (x + wide) / half; h++) {
                    int fromX = Math.max(0, Math.min(h + byX * 2 / half, planeWide(plane) - 1));
                    int fromY = Math.max(0, Math.min(v + byY * 2 / half, planeHigh(plane) - 1));
                    put(plane, h, v, reference.sample(0, plane, fromX, fromY));
                }
            }
        }
        return this;
    }

    private void put(int plane, int x, int y, int value) {
        samples[plane][y][x] = value;
        known[plane][y][x] = true;
    }

    private boolean isKnown(int plane, int x, int y) {
        return x >= 0 && y >= 0 && y < known[plane].length && x < known[plane][0].length && known[plane][y][x];
    }

    private void square(int plane, int x, int y, int size, int mode, boolean skip) {
        int side = 4 << size;
        int[][] predicted = predicted(plane, x, y, side, mode);
        int[][] more = skip ? new int[side][side]
                : wanted != null ? missing(plane, x, y, predicted) : drawn(plane, size, mode);
        for (int v = 0; v < side; v++) {
            for (int h = 0; h < side; h++) {
                put(plane, x + h, y + v, Math.max(0, Math.min(255, predicted[v][h] + more[v][h])));
            }
        }
    }

    /** What the samples that are wanted have more than the prediction, written as LOSSLESS numbers. */
    private int[][] missing(int plane, int x, int y, int[][] predicted) {
        int[][] more = new int[4][4];
        int[][] rows = new int[4][4];
        for (int h = 0; h < 4; h++) {
            int[] column = new int[4];
            for (int v = 0; v < 4; v++) {
                int[] row = wanted[plane][Math.min(y + v, wanted[plane].length - 1)];
                column[v] = row[Math.min(x + h, row.length - 1)] - predicted[v][h];
                more[v][h] = column[v];
            }
            column = undone(column);
            for (int v = 0; v < 4; v++) {
                rows[v][h] = column[v];
            }
        }
        int[] numbers = new int[16];
        int[][] all = new int[4][];
        for (int v = 0; v < 4; v++) {
            all[v] = undone(rows[v]);
        }
        int used = 0;
        for (int i = 0; i < 16; i++) {
            int[] place = Numbers.scan(4, 0).get(i);
            numbers[i] = all[place[1]][place[0]];
            used = numbers[i] == 0 ? used : i + 1;
        }
        Numbers.write(frame, 0, plane, false, 0, 0, Arrays.copyOf(numbers, used));
        return more;
    }

    /** The four numbers of which the LOSSLESS transform makes these. */
    private static int[] undone(int[] four) {
        int a = four[0] + four[1];
        int d = four[3] - four[2];
        int e = a - d >> 1;
        int b = e - four[1];
        int c = e - four[2];
        return new int[] {a - b, b, c, d + c};
    }

    private int[][] drawn(int plane, int size, int mode) {
        int side = 4 << size;
        int order = plane != 0 || size > 1 ? 0 : mode == 1 || mode == 5 || mode == 8 ? 1
                : mode == 2 || mode == 6 || mode == 7 ? 2 : 0;
        int[] numbers = new int[1 + random.nextInt(9)];
        int[][] all = new int[side][side];
        List<int[]> places = Numbers.scan(side, order);
        int i = frame.base;
        for (int at = 0; at < numbers.length; at++) {
            numbers[at] = random.nextInt(9) - 4;
            int quantiser = at == 0 ? 4 + i + i * i / 128 : 4 + i + i * i / 64;
            all[places.get(at)[1]][places.get(at)[0]] = numbers[at] * quantiser;
        }
        // A number that is not 0 must stand last, for none can be left out right behind a 0.
        if (numbers[numbers.length - 1] == 0) {
            int at = numbers.length - 1;
            numbers[at] = 1;
            all[places.get(at)[1]][places.get(at)[0]] = at == 0 ? 4 + i + i * i / 128 : 4 + i + i * i / 64;
        }
        Numbers.write(frame, size, plane, false, order, 0, numbers);
        return Numbers.turned(side, plane == 0 && size == 0, all);
    }

    private int[][] predicted(int plane, int x, int y, int n, int mode) {
        int[] a = new int[2 * n];
        int[] l = new int[n];
        for (int j = 0; j < 2 * n; j++) {
            a[j] = !isKnown(plane, x, y - 1) ? 127
                    : isKnownUpTo(plane, x, y - 1, j, true) ? samples[plane][y - 1][x + j] : a[j - 1];
        }
        for (int i = 0; i < n; i++) {
            l[i] = !isKnown(plane, x - 1, y) ? 129
                    : isKnownUpTo(plane, x - 1, y, i, false) ? samples[plane][y + i][x - 1] : l[i - 1];
        }
        boolean above = isKnown(plane, x, y - 1);
        boolean left = isKnown(plane, x - 1, y);
        int c = isKnown(plane, x - 1, y - 1) ? samples[plane][y - 1][x - 1] : above ? 129 : 127;
        int[][] out = new int[n][n];
        for (int v = 0; v < n; v++) {
            for (int h = 0; h < n; h++) {
                out[v][h] = mode == 0 ? mean(a, l, n, above, left) : Modes.sample(mode, h, v, n, a, l, c);
            }
        }
        return out;
    }

    private boolean isKnownUpTo(int plane, int x, int y, int steps, boolean across) {
        for (int i = 0; i <= steps; i++) {
            if (!isKnown(plane, across ? x + i : x, across ? y : y + i)) {
                return false;
            }
        }
        return true;
    }

    private static int mean(int[] a, int[] l, int n, boolean above, boolean left) {
        if (!above && !left) {
            return 128;
        }
        double sum = 0;
        for (int i = 0; i < n; i++) {
            sum += (above ? a[i] : 0) + (left ? l[i] : 0);
        }
        return (int) Math.floor(sum / (above && left ? 2 * n : n) + 0.5);
    }

    /** Compares every sample of the picture. */
    void check(Due due, String name, VideoDecoder x) {
        due.be(name + " decode", Calls.decode(x, frame), 1);
        for (int plane = 0; plane < 3; plane++) {
            for (int v = 0; v < planeHigh(plane); v++) {
                for (int h = 0; h < planeWide(plane); h++) {
                    int want = samples[plane][v][h];
                    due.be(name + " plane " + plane + " at " + h + ", " + v, x.sample(-1, plane, h, v), want);
                }
            }
        }
    }
}
