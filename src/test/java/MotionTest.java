/** PREDICTION from other pictures: eighths of a sample, the edges of the plane, both kernels, and two at once. */
public final class MotionTest {
    private static final Due DUE = new Due();
    private static final int[][] TAPS = {
        {0, 0, 0, 128, 0, 0, 0, 0}, {0, 1, -5, 126, 8, -3, 1, 0}, {-1, 3, -10, 122, 18, -6, 2, 0},
        {-1, 4, -13, 118, 27, -9, 3, -1}, {-1, 4, -16, 112, 37, -11, 4, -1}, {-1, 5, -18, 105, 48, -14, 4, -1},
        {-1, 5, -19, 97, 58, -16, 5, -1}, {-1, 6, -19, 88, 68, -18, 5, -1}, {-1, 6, -19, 78, 78, -19, 6, -1}};
    private static final int WIDTH = 37;
    private static final int HEIGHT = 21;

    private static VideoDecoder x = new VideoDecoder();

    public static void main(String[] args) {
        wholeSamples();
        allFractionsAcross();
        allFractionsDown();
        cutDownwards();
        heldWithinThePlane();
        heldFarOutside();
        oddSizes();
        clippedBetweenAndBehind();
        kernelByBlock();
        meanOfTwo();
        threeReferences();
        ownPictureIsNotTheReference();
        largestPicture();
        DUE.close("MotionTest");
    }

    /** A picture of strong contrasts, in the slots of this mask, with other samples beyond its sides. */
    private static void paint(int width, int height, int refreshed, long seed) {
        Painter painter = new Painter(width, height, null, seed);
        painter.frame.inter = true;
        painter.frame.intraOnly = true;
        painter.frame.refreshed = refreshed;
        painter.frame.base = 255;
        int columns = (width + 7) / 8;
        int rows = (height + 7) / 8;
        painter.bits("0").still(0, 0, columns > 4 ? 64 : 32, rows > 4 ? 64 : 32, 0, 9, 0, false);
        painter.check(DUE, "reference", x);
    }

    private static int[][][] samplesOf(int slot) {
        int[][][] out = new int[3][][];
        for (int plane = 0; plane < 3; plane++) {
            int wide = plane == 0 ? x.size(slot, 0) : (x.size(slot, 0) + 1) / 2;
            int high = plane == 0 ? x.size(slot, 1) : (x.size(slot, 1) + 1) / 2;
            out[plane] = new int[high][wide];
            for (int v = 0; v < high; v++) {
                for (int h = 0; h < wide; h++) {
                    out[plane][v][h] = x.sample(slot, plane, h, v);
                }
            }
        }
        return out;
    }

    private static int tap(int kernel, int f, int i) {
        if (kernel == 1) {
            return i == 3 ? 128 - 8 * f : i == 4 ? 8 * f : 0;
        }
        return f <= 8 ? TAPS[f][i] : TAPS[16 - f][7 - i];
    }

    private static int clip(int v) {
        return Math.max(0, Math.min(255, v));
    }

    /** The sample of the document's words. */
    private static int moved(int[][] from, int plane, int h, int v, int vx, int vy, int kernel) {
        int u = 16 * h + (plane == 0 ? 2 : 1) * vx;
        int w = 16 * v + (plane == 0 ? 2 : 1) * vy;
        int across = Math.floorDiv(u, 16);
        int down = Math.floorDiv(w, 16);
        int sum = 64;
        for (int j = 0; j < 8; j++) {
            int row = 64;
            for (int i = 0; i < 8; i++) {
                int atX = Math.max(0, Math.min(from[0].length - 1, across + i - 3));
                int atY = Math.max(0, Math.min(from.length - 1, down + j - 3));
                row += tap(kernel, Math.floorMod(u, 16), i) * from[atY][atX];
            }
            sum += tap(kernel, Math.floorMod(w, 16), j) * clip(row >> 7);
        }
        return clip(sum >> 7);
    }

    private static FrameWriter frame(int kernel) {
        FrameWriter frame = FrameWriter.inter();
        frame.refreshed = 0;
        frame.fine = true;
        frame.kernel = kernel;
        // No motion of the frame before: what is NEAREST is (0, 0).
        frame.resilient = true;
        return frame.bits("0");
    }

    private static void due(String name, int[][][] from, int vx, int vy, int kernel) {
        DUE.be("vector x", x.block(0, 0, 12), vx);
        DUE.be("vector y", x.block(0, 0, 13), vy);
        for (int plane = 0; plane < 3; plane++) {
            for (int v = 0; v < from[plane].length; v++) {
                for (int h = 0; h < from[plane][0].length; h++) {
                    int want = moved(from[plane], plane, h, v, vx, vy, kernel);
                    DUE.be(name + " by " + vx + ", " + vy + " plane " + plane + " at " + h + ", " + v,
                            x.sample(-1, plane, h, v), want);
                }
            }
        }
    }

    private static void move(int[][][] from, int vx, int vy, int kernel) {
        Calls.decode(x, frame(kernel).bits("1 1 0 111" + Scene.difference(vx, vy, true)));
        due("kernel " + kernel, from, vx, vy, kernel);
    }

    private static void wholeSamples() {
        DUE.says("plane 0: u = 16 * x + 2 * vx, planes 1, 2: 16 * x + vx");
        paint(WIDTH, HEIGHT, 255, 1);
        int[][][] from = samplesOf(0);
        for (int kernel = 0; kernel < 2; kernel++) {
            for (int by : new int[] {-32, -16, -8, 8, 16, 24}) {
                move(from, by, 0, kernel);
                move(from, 0, by, kernel);
            }
            Calls.decode(x, frame(kernel).bits("1 1 0 0"));
            due("ZERO", from, 0, 0, kernel);
        }
    }

    private static void allFractionsAcross() {
        DUE.says("K(16 - f, i) = K(f, 7 - i); KERNEL 1: 128 - 8 * f at i 3, 8 * f at 4: across");
        int[][][] from = samplesOf(0);
        for (int kernel = 0; kernel < 2; kernel++) {
            for (int by = 1; by <= 16; by++) {
                move(from, by, 0, kernel);
            }
        }
    }

    private static void allFractionsDown() {
        DUE.says("y likewise, Y, g");
        int[][][] from = samplesOf(0);
        for (int kernel = 0; kernel < 2; kernel++) {
            for (int by = 1; by <= 16; by++) {
                move(from, 0, by, kernel);
                move(from, by, 17 - by, kernel);
            }
        }
    }

    private static void cutDownwards() {
        DUE.says("its whole part X = u / 16 cut downwards, its rest f");
        int[][][] from = samplesOf(0);
        for (int kernel = 0; kernel < 2; kernel++) {
            for (int by = 1; by <= 17; by++) {
                move(from, -by, 0, kernel);
                move(from, 0, -by, kernel);
                move(from, -by, by - 18, kernel);
            }
        }
    }

    private static void heldWithinThePlane() {
        DUE.says("S is the sample of the reference's PICTURE, x and y held within the plane's samples (not the FIELD)");
        int[][][] from = samplesOf(0);
        for (int by : new int[] {60, 100, 160, 161, 168, 169, 175, 296, 303, 304, 311, 330}) {
            for (int kernel = 0; kernel < 2; kernel++) {
                move(from, by, 0, kernel);
                move(from, -by, 0, kernel);
                move(from, 0, by, kernel);
                move(from, 0, -by, kernel);
                move(from, by, -by, kernel);
            }
        }
    }

    private static void heldFarOutside() {
        DUE.says("x and y held, however far a vector goes");
        int[][][] from = samplesOf(0);
        for (int kernel = 0; kernel < 2; kernel++) {
            for (int by : new int[] {1000, 2047, 2048}) {
                move(from, by, by, kernel);
                move(from, -by, by, kernel);
                move(from, by, -by, kernel);
                move(from, -by, -by, kernel);
            }
        }
    }

    private static void oddSizes() {
        DUE.says("planes 1 and 2 with (W + 1) / 2 x (H + 1) / 2: their own edges");
        int[][] sizes = {{17, 17}, {18, 17}, {17, 18}, {24, 32}, {31, 31}};
        for (int[] size : sizes) {
            x = new VideoDecoder();
            paint(size[0], size[1], 255, size[0]);
            int[][][] from = samplesOf(0);
            DUE.be("width of plane 1", from[1][0].length, (size[0] + 1) / 2);
            DUE.be("height of plane 2", from[2].length, (size[1] + 1) / 2);
            for (int by : new int[] {-70, -9, 9, 57, 70, 129}) {
                move(from, by, -by, 0);
                move(from, by, by, 1);
            }
        }
        DUE.says("1 .. 192 samples wide (W) and high (H): one sample alone");
        x = new VideoDecoder();
        Calls.decode(x, FrameWriter.key(1, 1).bits("0 0 0 1100 0"));
        int only = x.sample(0, 0, 0, 0);
        FrameWriter tiny = FrameWriter.inter();
        tiny.fine = true;
        Calls.decode(x, tiny.bits("1 1 0 111" + Scene.difference(2047, -2047, true)));
        DUE.be("the same", x.sample(-1, 0, 0, 0), only);
        DUE.be("chroma", x.sample(-1, 2, 0, 0), 128);
    }

    private static void clippedBetweenAndBehind() {
        DUE.says("h(j) = CLIP(..), j = 0 .. 7; then CLIP(..)");
        x = new VideoDecoder();
        // Mode TM and large numbers give many samples of 0 and 255 side by side.
        Painter painter = new Painter(32, 32, null, 4).bits("0");
        painter.frame.base = 255;
        painter.still(0, 0, 32, 32, 0, 9, 9, false).check(DUE, "reference", x);
        int[][][] from = samplesOf(0);
        int ends = 0;
        for (int[] row : from[0]) {
            for (int value : row) {
                ends += value == 0 || value == 255 ? 1 : 0;
            }
        }
        DUE.be("samples at the ends", ends > 50 ? 1 : 0, 1);
        for (int by = 1; by < 8; by++) {
            move(from, by, 8 - by, 0);
            move(from, by, by, 0);
        }
    }

    private static void kernelByBlock() {
        DUE.says("KERNEL 2 for each block");
        int[][][] from = samplesOf(0);
        for (int kernel = 0; kernel < 2; kernel++) {
            FrameWriter frame = FrameWriter.inter();
            frame.refreshed = 0;
            frame.fine = true;
            frame.kernel = 2;
            frame.resilient = true;
            Calls.decode(x, frame.bits("0 1 1 0 111" + kernel + Scene.difference(3, 5, true)));
            due("by block", from, 3, 5, kernel);
            DUE.be("KERNEL", x.block(0, 0, 16), kernel);
        }
    }

    private static void meanOfTwo() {
        DUE.says("DOUBLE: R(both, 1)");
        x = new VideoDecoder();
        paint(WIDTH, HEIGHT, 255, 2);
        paint(WIDTH, HEIGHT, 2, 3);
        int[][][] first = samplesOf(0);
        int[][][] second = samplesOf(1);
        for (int kernel = 0; kernel < 2; kernel++) {
            FrameWriter frame = FrameWriter.inter();
            frame.refreshed = 0;
            frame.fine = true;
            frame.kernel = kernel;
            frame.resilient = true;
            frame.references = new int[] {0, 0, 1};
            frame.sides[2] = 1;
            frame.doubling = 1;
            String differences = Scene.difference(5, -6, true) + Scene.difference(-7, 9, true);
            Calls.decode(x, frame.bits("0 1 1 1 111" + differences));
            DUE.be("second x", x.block(0, 0, 14), -7);
            for (int plane = 0; plane < 3; plane++) {
                for (int v = 0; v < first[plane].length; v++) {
                    for (int h = 0; h < first[plane][0].length; h++) {
                        int a = moved(first[plane], plane, h, v, 5, -6, kernel);
                        int b = moved(second[plane], plane, h, v, -7, 9, kernel);
                        DUE.be("mean", x.sample(-1, plane, h, v), a + b + 1 >> 1);
                    }
                }
            }
        }
    }

    private static void threeReferences() {
        DUE.says("the SLOT of REFERENCE 0, 1, 2");
        x = new VideoDecoder();
        for (int slot = 0; slot < 8; slot++) {
            paint(WIDTH, HEIGHT, 1 << slot, 10 + slot);
        }
        for (int slot = 0; slot < 8; slot++) {
            for (int reference = 0; reference < 3; reference++) {
                int[][][] from = samplesOf(slot);
                FrameWriter frame = frame(0);
                frame.references = new int[] {(slot + 1) % 8, (slot + 2) % 8, (slot + 3) % 8};
                frame.references[reference] = slot;
                String which = new String[] {"0", "10", "11"}[reference];
                Calls.decode(x, frame.bits("1 1" + which + "111" + Scene.difference(3, 4, true)));
                due("slot " + slot, from, 3, 4, 0);
            }
        }
    }

    private static void largestPicture() {
        DUE.says("of all its samples: up to the last of the largest picture, and no others");
        x = new VideoDecoder();
        Painter painter = new Painter(192, 192, null, 8);
        painter.frame.base = 255;
        for (int i = 0; i < 9; i++) {
            painter.bits("0").still(i % 3 * 64, i / 3 * 64, 64, 64, 0, 9, 9, false);
        }
        painter.check(DUE, "reference", x);
        int[][][] from = samplesOf(0);
        FrameWriter frame = FrameWriter.inter();
        frame.refreshed = 0;
        frame.fine = true;
        frame.resilient = true;
        frame.bits("0 1 1 0 111" + Scene.difference(5, -9, true));
        for (int i = 1; i < 9; i++) {
            frame.bits("0 1 1 0 10");
        }
        Calls.decode(x, frame);
        due("largest", from, 5, -9, 0);
        FrameWriter zero = FrameWriter.inter();
        zero.resilient = true;
        zero.sides[2] = 1;
        zero.doubling = 1;
        for (int i = 0; i < 9; i++) {
            zero.bits("0 1 1 0 0");
        }
        Calls.decode(x, zero);
        due("both the same", from, 0, 0, 0);
    }

    private static void ownPictureIsNotTheReference() {
        DUE.says("SLOTS that are REFRESHED hold the PICTURE (at the end)");
        int[][][] from = samplesOf(0);
        FrameWriter frame = frame(0);
        frame.refreshed = 255;
        Calls.decode(x, frame.bits("1 1 0 111" + Scene.difference(13, -21, true)));
        due("refreshed", from, 13, -21, 0);
        // And again from the new picture.
        from = samplesOf(0);
        Calls.decode(x, frame(1).bits("1 1 0 111" + Scene.difference(-13, 21, true)));
        due("from the new one", from, -13, 21, 1);
    }
}
