import java.util.ArrayList;
import java.util.Comparator;
import java.util.List;

/** Writes the numbers of squares with the models that the document names, and says what they become. */
final class Numbers {
    private static final int[] WAVE = {
        64, 90, 90, 90, 89, 88, 87, 85, 83, 82, 80, 78, 75, 73, 70, 67, 64, 61, 57, 54, 50, 46, 43, 38, 36, 31,
        25, 22, 18, 13, 9, 4, 0};
    private static final int[][] SLOPES = {{29, 55, 74, 84}, {74, 74, 0, -74}, {84, -29, -74, 55}, {55, -84, 74, -29}};

    private Numbers() {
    }

    /** Places of a scan as {x, y}; order 0 by x + y, 1 by 4 * y + x, 2 by y + 4 * x. */
    static List<int[]> scan(int side, int order) {
        List<int[]> places = new ArrayList<>();
        for (int y = 0; y < side; y++) {
            for (int x = 0; x < side; x++) {
                places.add(new int[] {x, y});
            }
        }
        int down = order == 1 ? 4 : 1;
        int across = order == 2 ? 4 : 1;
        places.sort(Comparator.<int[]>comparingInt(p -> across * p[0] + down * p[1]).thenComparingInt(p -> p[1]));
        return places;
    }

    static int band(int place) {
        return place == 0 ? 0 : place <= 2 ? 1 : place <= 5 ? 2 : place <= 9 ? 3 : place <= 20 ? 4 : 5;
    }

    static int grade(int amount) {
        return amount <= 2 ? amount : amount <= 4 ? 3 : amount <= 10 ? 4 : 5;
    }

    /** The first of the three models of a place. */
    static int model(int size, int plane, boolean other, int band, int c) {
        return 1185 + 3 * (c + 6 * (band + 6 * ((other ? 1 : 0) + 2 * ((plane == 0 ? 0 : 1) + 2 * size))));
    }

    /** A square without numbers; c tells how many of its neighbours have some. */
    static void none(FrameWriter frame, int size, int plane, boolean other, int c) {
        frame.m(model(size, plane, other, 0, c), "0");
    }

    /** Numbers in the order of the scan, up to the last that is written. */
    static void write(FrameWriter frame, int size, int plane, boolean other, int order, int c, int... numbers) {
        int side = 4 << size;
        List<int[]> places = scan(side, order);
        int[][] amounts = new int[side][side];
        boolean behindZero = false;
        for (int i = 0; i <= numbers.length && i < side * side; i++) {
            int x = places.get(i)[0];
            int y = places.get(i)[1];
            int context = c;
            if (i > 0) {
                int p = y > 0 ? amounts[y - 1][x] : amounts[y][x - 1];
                int q = x > 0 ? amounts[y][x - 1] : amounts[y - 1][x];
                context = (1 + grade(p) + grade(q)) / 2;
            }
            int m = model(size, plane, other, band(i), context);
            if (i == numbers.length) {
                frame.m(m, "0");
                return;
            }
            if (!behindZero) {
                frame.m(m, "1");
            }
            amounts[y][x] = Math.abs(numbers[i]);
            behindZero = numbers[i] == 0;
            number(frame, m, plane, numbers[i]);
        }
    }

    private static void number(FrameWriter frame, int m, int plane, int number) {
        int amount = Math.abs(number);
        frame.m(m + 1, amount == 0 ? "0" : "1");
        if (amount == 0) {
            return;
        }
        frame.m(m + 2, amount == 1 ? "0" : "1");
        if (amount > 1) {
            int u = 31 - Integer.numberOfLeadingZeros(amount - 1);
            frame.ladder(2913 + (plane == 0 ? 0 : 14), u, 14).l(u, amount - 1 - (1 << u));
        }
        frame.l(1, number < 0 ? 1 : 0);
    }

    private static int wave(int angle) {
        int j = angle % 128;
        j = j > 64 ? 128 - j : j;
        return j > 32 ? -WAVE[64 - j] : WAVE[j];
    }

    private static int of(int side, boolean slopes, int k, int n) {
        return slopes ? SLOPES[k][n] : k == 0 ? 64 : wave((2 * n + 1) * k * (32 / side));
    }

    private static int held(long value) {
        return (int) Math.max(-32768, Math.min(32767, value));
    }

    /** What numbers, row by row and times the quantiser already, add to each sample. */
    static int[][] turned(int side, boolean slopes, int[][] numbers) {
        int[][] columns = new int[side][side];
        int[][] out = new int[side][side];
        for (int x = 0; x < side; x++) {
            for (int y = 0; y < side; y++) {
                long sum = 64;
                for (int k = 0; k < side; k++) {
                    sum += (long) of(side, slopes, k, y) * numbers[k][x];
                }
                columns[y][x] = held(sum >> 7);
            }
        }
        for (int y = 0; y < side; y++) {
            for (int x = 0; x < side; x++) {
                long sum = 2048;
                for (int k = 0; k < side; k++) {
                    sum += (long) of(side, slopes, k, x) * columns[y][k];
                }
                out[y][x] = (int) (sum >> 12);
            }
        }
        return out;
    }
}
