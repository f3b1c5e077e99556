/** PREDICTION from the picture itself: which samples round a square are KNOWN, and what each mode makes of them. */
public final class StillTest {
    private static final Due DUE = new Due();

    public static void main(String[] args) {
        nothingKnown();
        leftKnown();
        aboveKnown();
        cornerKnown();
        meanOfOneSide();
        allFourQuarters();
        squaresOfABlock();
        aboveToTheRightNotWritten();
        aboveBeyondThePicture();
        aboveBeyondTheField();
        leftBeyondThePicture();
        otherBlocksAreWrittenWhole();
        framesBeforeAreNotKnown();
        lastOfD45();
        trueMotionIsClipped();
        squaresWithSkipToo();
        largestPicture();
        DUE.close("StillTest");
    }

    private static VideoDecoder decoded(FrameWriter frame) {
        VideoDecoder x = new VideoDecoder();
        Calls.decodeLearning(DUE, x, frame);
        return x;
    }

    private static void block(FrameWriter frame, int n, int first, int mode) {
        frame.m(60 + n, "1").ladder(first, mode, 9).ladder(1011 + 9 * mode, mode, 9);
    }

    /** Above 127, on the left 129, in the corner 127. */
    private static void nothingKnown() {
        DUE.says("A(0) not KNOWN: all A are 127; L(0) not KNOWN: all L are 129; C not KNOWN: 127; neither: 128");
        for (int size = 0; size < 4; size++) {
            for (int mode = 0; mode < 10; mode++) {
                Painter painter = new Painter(32, 32, null, mode).bits("0");
                painter.still(0, 0, 32, 32, size, mode, mode, true);
                painter.check(DUE, "mode " + mode, new VideoDecoder());
            }
        }
        FrameWriter frame = FrameWriter.key(8, 8);
        frame.transformMode = 1;
        block(frame, 0, 75, 9);
        // TM: 129 + 127 - 127.
        DUE.be("TM", decoded(frame).sample(0, 0, 5, 5), 129);
    }

    private static void leftKnown() {
        DUE.says("C not KNOWN: 127 (A(0) is not KNOWN, either)");
        FrameWriter frame = FrameWriter.key(16, 8).m(43, "1");
        frame.transformMode = 1;
        block(frame, 0, 75, 0);
        block(frame, 1, 75, 9);
        // TM on the right of 128: 128 + 127 - 127.
        DUE.be("TM", decoded(frame).sample(0, 0, 12, 5), 128);
    }

    private static void aboveKnown() {
        DUE.says("C not KNOWN: .. but 129 if A(0) is KNOWN");
        FrameWriter frame = FrameWriter.key(8, 16).m(44, "1");
        frame.transformMode = 1;
        block(frame, 0, 75, 0);
        block(frame, 1, 75, 9);
        // TM below 128: 129 + 128 - 129.
        DUE.be("TM", decoded(frame).sample(0, 0, 5, 12), 128);
        frame = FrameWriter.key(8, 16).m(44, "1");
        frame.transformMode = 1;
        block(frame, 0, 75, 0);
        block(frame, 1, 75, 4);
        // D135 at (0, 0): L(0), C, A(0) = 129, 129, 128.
        DUE.be("D135", decoded(frame).sample(0, 0, 0, 8), 129 + 2 * 129 + 128 + 2 >> 2);
    }

    private static void cornerKnown() {
        DUE.says("C the one above and on the left");
        Painter painter = new Painter(16, 16, null, 5).bits("111");
        for (int i = 0; i < 3; i++) {
            painter.still(i % 2 * 8, i / 2 * 8, 8, 8, 1, 0, 0, false);
        }
        painter.still(8, 8, 8, 8, 1, 9, 9, true).check(DUE, "TM", new VideoDecoder());
    }

    private static void meanOfOneSide() {
        DUE.says("DC: the mean of A(0 .. N - 1) and L, as far as A(0), L(0) are KNOWN, plus one half, cut off");
        for (long seed = 0; seed < 20; seed++) {
            Painter left = new Painter(16, 8, null, seed).bits("1");
            left.still(0, 0, 8, 8, 1, 0, 0, false).still(8, 0, 8, 8, 1, 0, 0, true);
            left.check(DUE, "left alone", new VideoDecoder());
            Painter above = new Painter(8, 16, null, seed).bits("1");
            above.still(0, 0, 8, 8, 1, 0, 0, false).still(0, 8, 8, 8, 1, 0, 0, true);
            above.check(DUE, "above alone", new VideoDecoder());
        }
    }

    private static void allFourQuarters() {
        DUE.says("N its size; A(j), j = 0 .. 2 * N - 1, the samples above, L(i) on the left: all modes, all sizes");
        for (int size = 1; size < 4; size++) {
            int n = 4 << size;
            for (int mode = 0; mode < 10; mode++) {
                for (int target = 1; target < 4; target++) {
                    Painter painter = new Painter(2 * n, 2 * n, null, mode * 7 + target).bits("111");
                    painter.frame.base = 40;
                    for (int i = 0; i < 4; i++) {
                        painter.bits(n > 8 ? "0" : "");
                        boolean its = i == target;
                        int chroma = its ? (mode + target) % 10 : 0;
                        painter.still(i % 2 * n, i / 2 * n, n, n, size, its ? mode : 9 * (i % 2), chroma, its);
                    }
                    painter.check(DUE, "size " + size + " mode " + mode + " at " + target, new VideoDecoder());
                }
            }
        }
    }

    private static void squaresOfABlock() {
        DUE.says("each square in turn, its residue being added before the next");
        for (int size = 0; size < 3; size++) {
            for (int mode = 0; mode < 10; mode++) {
                Painter painter = new Painter(48, 48, null, 100 + mode).bits("0");
                painter.frame.base = 30;
                painter.still(0, 0, 64, 64, size, mode, 9 - mode, false);
                painter.check(DUE, "size " + size + " mode " + mode, new VideoDecoder());
            }
        }
    }

    private static void aboveToTheRightNotWritten() {
        DUE.says("else from the first that is not KNOWN on A is the one before");
        // The second block of a row of halves has nothing above to its right but what was written before it.
        for (int mode : new int[] {3, 8}) {
            Painter painter = new Painter(32, 32, null, mode).bits("111");
            painter.frame.base = 40;
            painter.bits("111");
            for (int i = 0; i < 4; i++) {
                painter.still(i % 2 * 8, i / 2 * 8, 8, 8, 1, i == 3 ? mode : 0, mode, i == 3);
            }
            painter.bits("0").still(16, 0, 16, 16, 2, 0, 0, false);
            painter.bits("0").still(0, 16, 16, 16, 2, mode, mode, true);
            painter.bits("0").still(16, 16, 16, 16, 2, mode, mode, true);
            painter.check(DUE, "mode " + mode, new VideoDecoder());
        }
    }

    private static void aboveBeyondThePicture() {
        DUE.says("A sample is KNOWN if it is in the FIELD and was written in this FRAME: above, beyond the picture");
        for (int width : new int[] {33, 40, 41, 48}) {
            for (int upper = 0; upper < 4; upper++) {
                for (int size = 0; size < 4; size++) {
                    for (int mode : new int[] {0, 1, 3, 8}) {
                        Painter painter = new Painter(width, 128, null, upper + size).bits("0");
                        painter.frame.base = 40;
                        painter.still(0, 0, 64, 64, upper, 3, 3, false);
                        painter.bits("0").still(0, 64, 64, 64, size, mode, mode, true);
                        String name = "width " + width + ", " + upper + " above " + size + ", mode " + mode;
                        painter.check(DUE, name, new VideoDecoder());
                    }
                }
            }
        }
    }

    private static void aboveBeyondTheField() {
        DUE.says("KNOWN if it is in the FIELD");
        for (int mode : new int[] {3, 8}) {
            Painter painter = new Painter(192, 128, null, mode);
            painter.frame.base = 40;
            for (int i = 0; i < 6; i++) {
                painter.bits("0").still(i % 3 * 64, i / 3 * 64, 64, 64, 3, i < 3 ? 9 : mode, i < 3 ? 1 : mode, i >= 3);
            }
            painter.check(DUE, "mode " + mode, new VideoDecoder());
        }
    }

    private static void leftBeyondThePicture() {
        DUE.says("else from the first that is not KNOWN on L is the one before");
        for (int height : new int[] {33, 40, 41, 48}) {
            for (int lefter = 0; lefter < 4; lefter++) {
                for (int size = 0; size < 4; size++) {
                    for (int mode : new int[] {0, 2, 4, 6, 7, 9}) {
                        Painter painter = new Painter(128, height, null, lefter + size).bits("0");
                        painter.frame.base = 40;
                        painter.still(0, 0, 64, 64, lefter, 3, 3, false);
                        painter.bits("0").still(64, 0, 64, 64, size, mode, mode, true);
                        String name = "height " + height + ", " + lefter + " left of " + size + ", mode " + mode;
                        painter.check(DUE, name, new VideoDecoder());
                    }
                }
            }
        }
    }

    /** The picture that OTHER blocks take over. */
    private static VideoDecoder coloured(int width, int height) {
        Painter painter = new Painter(width, height, null, 77);
        for (int y = 0; y < height; y += 64) {
            for (int x = 0; x < width; x += 64) {
                painter.bits("0").still(x, y, 64, 64, 1, 0, 0, false);
            }
        }
        VideoDecoder x = new VideoDecoder();
        Calls.decode(x, painter.frame);
        return x;
    }

    private static void otherBlocksAreWrittenWhole() {
        DUE.says("PREDICTION, OTHER, of all its samples: they are KNOWN beyond the picture, too");
        for (int size = 0; size < 4; size++) {
            for (int mode : new int[] {0, 1, 3, 8, 9}) {
                // By one mode for all, or each block says: then the transforms of the OTHER one are large.
                for (int transformMode : new int[] {size, 4}) {
                    VideoDecoder x = coloured(40, 128);
                    Painter painter = new Painter(40, 128, x, 3);
                    painter.frame.transformMode = transformMode;
                    painter.bits("0").other(0, 0, 64, 64, -20, 3).bits("0").still(0, 64, 64, 64, size, mode, mode, true);
                    painter.check(DUE, "below, mode " + mode, x);
                    x = coloured(128, 40);
                    painter = new Painter(128, 40, x, 3);
                    painter.frame.transformMode = transformMode;
                    painter.bits("0").other(0, 0, 64, 64, 5, -20).bits("0").still(64, 0, 64, 64, size, mode, mode, true);
                    painter.check(DUE, "right, mode " + mode, x);
                }
            }
        }
        otherSquaresBesideLargerOnes();
    }

    /** Transforms of 8 in chroma beside an OTHER block whose squares end before the rows that they look at. */
    private static void otherSquaresBesideLargerOnes() {
        for (int mode : new int[] {0, 2, 7, 9}) {
            for (int transformMode = 0; transformMode < 4; transformMode++) {
                VideoDecoder x = coloured(128, 36);
                Painter painter = new Painter(128, 36, x, 3);
                painter.frame.transformMode = transformMode;
                painter.bits("0").other(0, 0, 64, 64, 0, -13).bits("0");
                painter.still(64, 0, 64, 64, transformMode, mode, mode, true).check(DUE, "beside, mode " + mode, x);
            }
        }
    }

    private static void framesBeforeAreNotKnown() {
        DUE.says("was written in this FRAME");
        VideoDecoder x = coloured(64, 64);
        for (int mode = 0; mode < 10; mode++) {
            Painter painter = new Painter(64, 64, x, mode).bits("0").still(0, 0, 64, 64, 3, mode, mode, true);
            painter.check(DUE, "mode " + mode, x);
        }
    }

    private static void lastOfD45() {
        DUE.says("D45: .. at x = y = N - 1 A(2 * N - 1)");
        for (int size = 1; size < 4; size++) {
            int n = 4 << size;
            Painter painter = new Painter(2 * n, 2 * n, null, 9).bits("111");
            for (int i = 0; i < 4; i++) {
                painter.bits(n > 8 ? "0" : "").still(i % 2 * n, i / 2 * n, n, n, size, i == 2 ? 3 : 9, 3, i == 2);
            }
            VideoDecoder x = new VideoDecoder();
            painter.check(DUE, "D45", x);
            DUE.be("last", x.sample(0, 0, n - 1, 2 * n - 1), x.sample(0, 0, 2 * n - 1, n - 1));
        }
    }

    private static void trueMotionIsClipped() {
        DUE.says("TM: CLIP(L(y) + A(x) - C)");
        for (int sign = -1; sign <= 1; sign += 2) {
            // Above and on the left of a grey corner both are as light, or as dark, as can be.
            FrameWriter frame = FrameWriter.key(16, 16).m(40, "111");
            frame.transformMode = 1;
            block(frame, 0, 75, 0);
            for (int i = 1; i < 3; i++) {
                frame.m(61, "0").ladder(75, 0, 9).ladder(1011, 0, 9);
                Numbers.write(frame, 1, 0, false, 0, 0, sign * 15);
                Numbers.none(frame, 0, 1, false, 0);
                Numbers.none(frame, 0, 2, false, 0);
            }
            block(frame, 0, 75, 9);
            VideoDecoder x = decoded(frame);
            DUE.be("neighbour", x.sample(0, 0, 15, 0), 128 + sign * 90);
            DUE.be("TM", x.sample(0, 0, 12, 12), sign > 0 ? 255 : 0);
        }
    }

    private static void largestPicture() {
        DUE.says("PICTURES: 1 .. 192 samples wide (W) and high (H); three PLANES");
        for (int side : new int[] {191, 192}) {
            Painter painter = new Painter(side, side, null, side);
            painter.frame.base = 60;
            for (int i = 0; i < 9; i++) {
                painter.bits("0").still(i % 3 * 64, i / 3 * 64, 64, 64, i % 4, i, 9 - i, false);
            }
            painter.check(DUE, "side " + side, new VideoDecoder());
        }
    }

    private static void squaresWithSkipToo() {
        DUE.says("each square of the RESIDUE's sizes (with SKIP, too)");
        for (int size = 0; size < 4; size++) {
            Painter painter = new Painter(64, 64, null, size).bits("111 0");
            painter.still(0, 0, 32, 32, 1, 0, 0, false).bits("0");
            painter.still(32, 0, 32, 32, size, 0, 7, true).bits("0");
            painter.still(0, 32, 32, 32, size, 4, 5, true).bits("0");
            painter.still(32, 32, 32, 32, size, 0, 9, true).check(DUE, "size " + size, new VideoDecoder());
        }
    }
}
