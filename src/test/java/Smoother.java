/** The filter of the document over rows of samples, with the blocks that a decoder tells. */
final class Smoother {
    interface Level {
        int of(int column, int row);
    }

    private final VideoDecoder decoder;
    private final int sharp;
    private final Level level;
    private int lines;

    Smoother(VideoDecoder decoder, int sharp, Level level) {
        this.decoder = decoder;
        this.sharp = sharp;
        this.level = level;
    }

    int lines() {
        return lines;
    }

    void run(int plane, int[][] samples, int columns, int rows) {
        int squares = plane == 0 ? 2 : 1;
        for (int flat = 0; flat < 2; flat++) {
            for (int v = 0; v < squares * rows; v++) {
                for (int h = 0; h < squares * columns; h++) {
                    int column = h / squares;
                    int row = v / squares;
                    int side = side(plane, column, row);
                    int place = flat == 1 ? v : h;
                    boolean isFirst = place == squares * decoder.block(column, row, flat);
                    boolean bare = decoder.block(column, row, 5) == 1 && decoder.block(column, row, 7) == -1;
                    if (place > 0 && 4 * place % side == 0 && (isFirst || !bare)) {
                        edge(samples, 4 * h, 4 * v, flat == 1, side, level.of(column, row));
                    }
                }
            }
        }
    }

    private int side(int plane, int column, int row) {
        int side = 4 << decoder.block(column, row, 6);
        int lesser = 8 * Math.min(decoder.block(column, row, 2), decoder.block(column, row, 3));
        return plane == 0 ? side : Math.min(side, lesser / 2);
    }

    private void edge(int[][] samples, int x, int y, boolean flat, int side, int l) {
        for (int k = 0; k < 4 && l > 0; k++) {
            int n = side >= 16 ? 8 : 4;
            int[] line = new int[2 * n];
            for (int i = 0; i < 2 * n; i++) {
                line[i] = flat ? samples[y + i - n][x + k] : samples[y + k][x + i - n];
            }
            int[] smoothed = line(line, side, l, sharp);
            boolean changed = false;
            for (int i = 0; i < 2 * n; i++) {
                changed = changed || line[i] != smoothed[i];
                if (flat) {
                    samples[y + i - n][x + k] = smoothed[i];
                } else {
                    samples[y + k][x + i - n] = smoothed[i];
                }
            }
            lines += changed ? 1 : 0;
        }
    }

    private static int p(int[] line, int k) {
        return line[line.length / 2 - 1 - k];
    }

    private static int q(int[] line, int k) {
        return line[line.length / 2 + k];
    }

    /** A line of 8 or 16 samples, the edge in its middle. */
    static int[] line(int[] line, int side, int l, int sharp) {
        int i = l >> (sharp > 4 ? 2 : sharp > 0 ? 1 : 0);
        i = Math.max(1, sharp > 0 ? Math.min(i, 9 - sharp) : i);
        for (int k = 0; k < 3; k++) {
            if (Math.abs(p(line, k) - p(line, k + 1)) > i || Math.abs(q(line, k) - q(line, k + 1)) > i) {
                return line;
            }
        }
        int sum = 2 * Math.abs(p(line, 0) - q(line, 0)) + Math.abs(p(line, 1) - q(line, 1)) / 2;
        if (sum > 2 * (l + 2) + i) {
            return line;
        }
        if (side >= 8 && isLevel(line, 1, 3)) {
            return mean(line, side >= 16 && isLevel(line, 4, 7) ? 7 : 3);
        }
        return little(line, l >> 4);
    }

    private static boolean isLevel(int[] line, int from, int to) {
        for (int k = from; k <= to; k++) {
            if (Math.abs(p(line, k) - p(line, 0)) > 1 || Math.abs(q(line, k) - q(line, 0)) > 1) {
                return false;
            }
        }
        return true;
    }

    private static int[] mean(int[] line, int n) {
        int[] out = line.clone();
        int middle = line.length / 2;
        for (int k = -n; k < n; k++) {
            int sum = line[middle + k];
            for (int j = k - n; j <= k + n; j++) {
                sum += line[middle + Math.max(-n - 1, Math.min(n, j))];
            }
            out[middle + k] = (sum + n + 1) / (2 * n + 2);
        }
        return out;
    }

    private static int s8(int v) {
        return Math.max(-128, Math.min(127, v));
    }

    private static int[] little(int[] line, int t) {
        int[] out = line.clone();
        int middle = line.length / 2;
        int p0 = p(line, 0) - 128;
        int p1 = p(line, 1) - 128;
        int q0 = q(line, 0) - 128;
        int q1 = q(line, 1) - 128;
        boolean hev = Math.abs(p1 - p0) > t || Math.abs(q1 - q0) > t;
        int f = s8((hev ? s8(p1 - q1) : 0) + 3 * (q0 - p0));
        int f1 = s8(f + 4) >> 3;
        int f2 = s8(f + 3) >> 3;
        out[middle] = s8(q0 - f1) + 128;
        out[middle - 1] = s8(p0 + f2) + 128;
        if (!hev) {
            out[middle + 1] = s8(q1 - (f1 + 1 >> 1)) + 128;
            out[middle - 2] = s8(p1 + (f1 + 1 >> 1)) + 128;
        }
        return out;
    }
}
