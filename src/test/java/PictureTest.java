import java.util.NoSuchElementException;

/** Promises 6, 7 and 8: samples, their check and sizes, with samples worked out by hand. */
public final class PictureTest {
    private static final Due DUE = new Due();

    public static void main(String[] args) {
        edgesOfPictures();
        numbersOfFour();
        modesWithoutNeighbours();
        numbersOfEight();
        lossless();
        quantisers();
        largest();
        DUE.close("PictureTest");
    }

    private static void edgesOfPictures() {
        DUE.says("no such SLOT, or nothing is there; no such plane or sample");
        VideoDecoder x = new VideoDecoder();
        Calls.decode(x, FrameWriter.key(7, 5).bits("100"));
        for (int slot = -1; slot < 8; slot++) {
            int s = slot;
            DUE.be("width", x.size(s, 0), 7);
            DUE.be("height", x.size(s, 1), 5);
            DUE.be("sample", x.sample(s, 0, 6, 4), 128);
            DUE.be("sample", x.sample(s, 1, 3, 2), 128);
            DUE.be("sample", x.sample(s, 2, 3, 2), 128);
            DUE.thrown("x 7", IndexOutOfBoundsException.class, () -> x.sample(s, 0, 7, 4));
            DUE.thrown("y 5", IndexOutOfBoundsException.class, () -> x.sample(s, 0, 6, 5));
            DUE.thrown("x 4", IndexOutOfBoundsException.class, () -> x.sample(s, 1, 4, 2));
            DUE.thrown("y 3", IndexOutOfBoundsException.class, () -> x.sample(s, 2, 3, 3));
            DUE.thrown("x -1", IndexOutOfBoundsException.class, () -> x.sample(s, 0, -1, 0));
            DUE.thrown("y -1", IndexOutOfBoundsException.class, () -> x.sample(s, 0, 0, -1));
            DUE.thrown("plane 3", IndexOutOfBoundsException.class, () -> x.sample(s, 3, 0, 0));
            DUE.thrown("plane -1", IndexOutOfBoundsException.class, () -> x.sample(s, -1, 0, 0));
            DUE.thrown("check 3", IndexOutOfBoundsException.class, () -> x.check(s, 3));
            DUE.thrown("check -1", IndexOutOfBoundsException.class, () -> x.check(s, -1));
            DUE.thrown("size 2", IllegalArgumentException.class, () -> x.size(s, 2));
            DUE.thrown("size -1", IllegalArgumentException.class, () -> x.size(s, -1));
        }
        for (int slot : new int[] {-2, 8, Integer.MAX_VALUE, Integer.MIN_VALUE}) {
            DUE.thrown("sample", NoSuchElementException.class, () -> x.sample(slot, 3, 0, 0));
            DUE.thrown("check", NoSuchElementException.class, () -> x.check(slot, 3));
            DUE.thrown("size", NoSuchElementException.class, () -> x.size(slot, 2));
        }
        plane("7 x 5", x, 0, new int[5][7], 128);
        plane("7 x 5", x, 1, new int[3][4], 128);
    }

    /** Rows of differences from a middle value against what sample and check answer. */
    private static void plane(String name, VideoDecoder x, int plane, int[][] rows, int middle) {
        byte[] all = new byte[rows.length * rows[0].length];
        for (int j = 0; j < rows.length; j++) {
            for (int i = 0; i < rows[j].length; i++) {
                int due = rows[j][i] + middle;
                all[j * rows[j].length + i] = (byte) due;
                DUE.be(name + " plane " + plane + " at " + i + ", " + j, x.sample(-1, plane, i, j), due);
            }
        }
        DUE.be(name + " check of plane " + plane, x.check(-1, plane), Calls.crc(all));
    }

    /** One number in the first square of four; the others take their mean from its edges. */
    private static void numbersOfFour() {
        DUE.says("rows k 0 .. 3 are 29 55 74 84, 74 74 0 -74, 84 -29 -74 55, 55 -84 74 -29");
        VideoDecoder x = new VideoDecoder();
        Calls.decode(x, FrameWriter.key(8, 8).bits("0 0 0  1100 0  0 0 0  0 0"));
        plane("4 x 4", x, 0, new int[][] {
            {1, 2, 3, 4, 8, 8, 8, 8},
            {2, 4, 6, 7, 8, 8, 8, 8},
            {3, 6, 8, 9, 8, 8, 8, 8},
            {4, 7, 9, 10, 8, 8, 8, 8},
            {8, 8, 8, 8, 8, 8, 8, 8},
            {8, 8, 8, 8, 8, 8, 8, 8},
            {8, 8, 8, 8, 8, 8, 8, 8},
            {8, 8, 8, 8, 8, 8, 8, 8}}, 128);
        plane("4 x 4", x, 1, new int[4][4], 128);
        plane("4 x 4", x, 2, new int[4][4], 128);
    }

    private static void modesWithoutNeighbours() {
        DUE.says("A(0) not KNOWN: all A are 127; L(0) not KNOWN: all L are 129");
        for (int mode = 0; mode < 10; mode++) {
            int[][] rows = new int[8][8];
            for (int y = 0; y < 8; y++) {
                for (int x = 0; x < 8; x++) {
                    rows[y][x] = withoutNeighbours(mode, x, y);
                }
            }
            FrameWriter frame = FrameWriter.key(8, 8);
            frame.transformMode = 1;
            VideoDecoder x = new VideoDecoder();
            Calls.decode(x, frame.bits("1" + ladder(mode) + ladder(mode)));
            DUE.be("mode", x.block(0, 0, 7), mode);
            DUE.be("chroma mode", x.block(0, 0, 8), mode);
            plane("mode " + mode, x, 0, rows, 128);
            DUE.be("chroma of mode " + mode, x.sample(0, 2, 1, 3), 128 + withoutNeighbours(mode, 1, 3));
        }
    }

    private static String ladder(int mode) {
        return "111111111".substring(0, mode) + (mode == 9 ? "" : "0");
    }

    /** Above and in the corner 127, on the left 129, told as differences from 128. */
    private static int withoutNeighbours(int mode, int x, int y) {
        switch (mode) {
            case 0:
                return 0;
            case 4:
                return x == y ? 0 : x > y ? -1 : 1;
            case 5:
                return 2 * x - y >= 0 ? -1 : 2 * x - y == -1 ? 0 : 1;
            case 6:
                return 2 * y - x == 0 || 2 * y - x == -1 ? 0 : 2 * y - x > 0 ? 1 : -1;
            case 1:
            case 3:
            case 8:
                return -1;
            default:
                return 1;
        }
    }

    private static void numbersOfEight() {
        DUE.says("c(y) = R(.., 7); r(x) = R(.., 12)");
        VideoDecoder x = new VideoDecoder();
        FrameWriter frame = FrameWriter.key(8, 8);
        frame.transformMode = 1;
        Calls.decode(x, frame.bits("0 0 0  1101 0  0  1 1 1 10 1 0 0"));
        int[][] rows = new int[8][8];
        plane("8 x 8", x, 0, rows, 128 - 6);
        // 4 in the first place: 4 * 767 = 3068, 1534, 24 in each sample.
        plane("8 x 8", x, 2, new int[4][4], 128 + 24);
    }

    private static void lossless() {
        DUE.says("LOSSLESS (N 4): a row of four, a b c d");
        VideoDecoder x = new VideoDecoder();
        FrameWriter frame = FrameWriter.key(4, 4);
        frame.base = 0;
        Calls.decode(x, frame.bits("0 0 0  1 1 1 1110 001 0 0  0 0 0  0 0"));
        // 10 in the first place: rows 5 5 5 5 become, by columns, 3 or 2.
        DUE.be("count 5", x.count(5), 1);
        int sum = 0;
        for (int y = 0; y < 4; y++) {
            for (int i = 0; i < 4; i++) {
                sum += x.sample(0, 0, i, y) - 128;
            }
        }
        DUE.be("first lossless sample", x.sample(0, 0, 0, 0), 128 + 3);
        DUE.be("sum of lossless samples", sum, losslessSum(10));
    }

    /** The sum of the sixteen samples that one number in the first place makes. */
    private static int losslessSum(int number) {
        int e = number >> 1;
        int[] row = {number - e, e, e, e};
        int sum = 0;
        for (int a : row) {
            int half = a >> 1;
            sum += a - half + 3 * half;
        }
        return sum;
    }

    /** A first number of one in an 8 x 8 square tells the quantiser, by what it adds. */
    private static void quantisers() {
        DUE.says("First number (x and y 0): 4 + i + i * i / 128");
        int[] bases = {1, 60, 128, 200, 255};
        int[] deltas = {0, -15, 15};
        for (int base : bases) {
            for (int delta : deltas) {
                VideoDecoder x = new VideoDecoder();
                FrameWriter frame = FrameWriter.key(8, 8);
                frame.transformMode = 1;
                frame.base = base;
                frame.deltas[0] = delta;
                Calls.decode(x, frame.bits("0 0 0  1 1 1 1110 000 0 0  0 0"));
                int i = Math.max(0, Math.min(255, base + delta));
                int number = 9 * (4 + i + i * i / 128);
                int all = (64 * (64 * number + 64 >> 7) + 2048) >> 12;
                DUE.be("base " + base + " delta " + delta, x.sample(0, 0, 3, 3), 128 + all);
            }
        }
    }

    private static void largest() {
        DUE.says("1 .. 192 samples wide (W) and high (H)");
        VideoDecoder x = new VideoDecoder();
        FrameWriter frame = FrameWriter.key(192, 192);
        for (int i = 0; i < 9; i++) {
            frame.bits("0 1 0 0");
        }
        Calls.decode(x, frame);
        DUE.be("blocks", x.count(3), 9);
        plane("largest", x, 0, new int[192][192], 128);
        plane("largest", x, 1, new int[96][96], 128);
        VideoDecoder y = new VideoDecoder();
        Calls.decode(y, FrameWriter.key(1, 1).bits("100"));
        plane("least", y, 0, new int[1][1], 128);
        plane("least", y, 2, new int[1][1], 128);
    }
}
