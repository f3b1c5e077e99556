/** BLOCKS 2 to 6: SKIP, OTHER, SIZE, modes, references, KIND and KERNEL, by the neighbours that are there. */
public final class SyntaxTest {
    private static final Due DUE = new Due();

    public static void main(String[] args) {
        skipByNeighbours();
        otherByNeighbours();
        mostOfSizes();
        noSizeIsRead();
        sizesUpToTheMost();
        sizesByNeighbours();
        bareNeighboursCountAsMost();
        smallBareNeighbours();
        stillModes();
        modesByNeighbours();
        modesOfOtherFrames();
        chromaModes();
        singleReferences();
        doublesByNeighbours();
        pairsByNeighbours();
        kinds();
        kindsByNeighbours();
        kernelsByNeighbours();
        answersOfBlocksThatAreNotOther();
        DUE.close("SyntaxTest");
    }

    private static VideoDecoder grey(int width, int height) {
        VideoDecoder x = new VideoDecoder();
        Calls.decode(x, FrameWriter.key(width, height));
        return x;
    }

    private static void decode(VideoDecoder x, FrameWriter frame) {
        Calls.decodeLearning(DUE, x, frame);
    }

    private static FrameWriter still(FrameWriter frame) {
        return frame.ladder(75, 0, 9).ladder(1011, 0, 9);
    }

    private static FrameWriter own(FrameWriter frame) {
        return frame.ladder(975, 0, 9).ladder(1011, 0, 9);
    }

    /** All squares of a block of 8 x 8 are without numbers, and so are the neighbours. */
    private static FrameWriter empty(FrameWriter frame, boolean other) {
        for (int i = 0; i < 4; i++) {
            Numbers.none(frame, 0, 0, other, 0);
        }
        Numbers.none(frame, 0, 1, other, 0);
        Numbers.none(frame, 0, 2, other, 0);
        return frame;
    }

    private static int with(int i, int above, int left) {
        return (i < 2 ? 0 : above) + (i % 2 == 0 ? 0 : left);
    }

    private static void skipByNeighbours() {
        DUE.says("M(60 + n), n neighbours with SKIP");
        for (int skips = 0; skips < 16; skips++) {
            FrameWriter frame = FrameWriter.key(16, 16).m(40, "111");
            for (int i = 0; i < 4; i++) {
                int n = with(i, skips >> i - 2 & 1, skips >> i - 1 & 1);
                int skip = skips >> i & 1;
                still(frame.m(60 + n, "" + skip));
                if (skip == 0) {
                    empty(frame, false);
                }
            }
            VideoDecoder x = new VideoDecoder();
            decode(x, frame);
            for (int i = 0; i < 4; i++) {
                DUE.be("SKIP", x.block(i % 2, i / 2, 5), skips >> i & 1);
            }
        }
    }

    private static void otherByNeighbours() {
        DUE.says("M(1101 + n), n neighbours with OTHER");
        for (int others = 0; others < 16; others++) {
            VideoDecoder x = grey(16, 16);
            FrameWriter frame = FrameWriter.inter().m(40, "111");
            for (int i = 0; i < 4; i++) {
                int n = with(i, others >> i - 2 & 1, others >> i - 1 & 1);
                frame.m(60 + with(i, 1, 1), "1").m(1101 + n, "" + (others >> i & 1));
                if ((others >> i & 1) == 1) {
                    frame.m(1110 + 2 * n, "0").m(1116, "0");
                } else {
                    own(frame);
                }
            }
            decode(x, frame);
            for (int i = 0; i < 4; i++) {
                DUE.be("OTHER", x.block(i % 2, i / 2, 9), (others >> i & 1) == 1 ? 0 : -1);
            }
        }
    }

    /** A frame that is one block of these sides, whole or a half of a square. */
    private static FrameWriter sized(int wide, int high) {
        if (wide == high) {
            FrameWriter frame = FrameWriter.key(wide, high);
            return wide == 64 ? frame.m(0, "0") : wide == 32 ? frame.m(20, "0") : wide == 16 ? frame.m(40, "0") : frame;
        }
        int side = Math.max(wide, high);
        int k = side == 64 ? 0 : side == 32 ? 20 : 40;
        return FrameWriter.key(wide, high).m(k + (wide > high ? 3 : 4), "0");
    }

    private static void mostOfSizes() {
        DUE.says("SIZE of transform, at most MAX, the lesser of its sides, 32 and what the MODE allows");
        int[][] sides = {{8, 8}, {16, 8}, {8, 16}, {16, 16}, {32, 16}, {16, 32}, {32, 32}, {64, 32}, {32, 64}, {64, 64}};
        int[] most = {1, 1, 1, 2, 2, 2, 3, 3, 3, 3};
        for (int i = 0; i < sides.length; i++) {
            for (int mode = 0; mode < 4; mode++) {
                FrameWriter frame = sized(sides[i][0], sides[i][1]);
                frame.transformMode = mode;
                VideoDecoder x = new VideoDecoder();
                decode(x, still(frame.m(60, "1")));
                DUE.be("SIZE", x.block(0, 0, 6), Math.min(mode, most[i]));
            }
            // Mode 4: neighbours that are not there count as MAX, so n is 1 for it.
            for (int size = 0; size <= most[i]; size++) {
                FrameWriter frame = sized(sides[i][0], sides[i][1]);
                frame.transformMode = 4;
                int offset = most[i] == 1 ? 0 : most[i] == 2 ? 1 : 3;
                frame.m(60, "1").ladder(63 + 6 + offset, size, most[i]);
                VideoDecoder x = new VideoDecoder();
                decode(x, still(frame));
                DUE.be("SIZE", x.block(0, 0, 6), size);
            }
        }
    }

    private static void noSizeIsRead() {
        DUE.says("if MODE is 4 and not (SKIP and OTHER); Else MAX");
        for (int skip = 0; skip < 2; skip++) {
            for (int other = 0; other < 2; other++) {
                VideoDecoder x = grey(8, 8);
                FrameWriter frame = FrameWriter.inter();
                frame.transformMode = 4;
                frame.m(60, "" + skip).m(1101, "" + other);
                if (skip == 0 || other == 0) {
                    frame.m(69, "0");
                }
                if (other == 1) {
                    frame.m(1110, "0").m(1116, "0");
                } else {
                    own(frame);
                }
                decode(x, skip == 1 ? frame : empty(frame, other == 1));
                DUE.be("SIZE", x.block(0, 0, 6), skip == 1 && other == 1 ? 1 : 0);
            }
        }
    }

    private static void sizesUpToTheMost() {
        DUE.says("from 4 on each that is 1 makes it twice as large, until one is 0 or it is MAX");
        String[] bits = {"0", "10", "110", "111"};
        for (int size = 0; size < 4; size++) {
            FrameWriter frame = FrameWriter.key(32, 32).m(20, "0").m(60, "1").m(63 + 6 + 3, bits[size]);
            frame.transformMode = 4;
            VideoDecoder x = new VideoDecoder();
            decode(x, still(frame));
            DUE.be("SIZE", x.block(3, 3, 6), size);
        }
    }

    private static void sizesByNeighbours() {
        DUE.says("n = 1 if a + l is above that of MAX, else 0");
        int[] offsets = {0, 0, 1, 3};
        int[] sides = {0, 8, 16, 32};
        int[] whole = {0, 0, 40, 20};
        for (int most = 1; most <= 3; most++) {
            for (int a = 0; a <= most; a++) {
                for (int l = 0; l <= most; l++) {
                    FrameWriter frame = FrameWriter.key(2 * sides[most], 2 * sides[most]);
                    frame.transformMode = 4;
                    frame.m(most == 1 ? 40 : most == 2 ? 20 : 0, "111");
                    int[] sizes = {most, a, l, 0};
                    for (int i = 0; i < 4; i++) {
                        int above = i < 2 ? most : sizes[i - 2];
                        int left = i % 2 == 0 ? most : sizes[i - 1];
                        int n = above + left > most ? 1 : 0;
                        if (most > 1) {
                            frame.m(whole[most], "0");
                        }
                        frame.m(60 + with(i, 1, 1), "1").ladder(63 + 6 * n + offsets[most], sizes[i], most);
                        still(frame);
                    }
                    VideoDecoder x = new VideoDecoder();
                    decode(x, frame);
                    int u = sides[most] / 8;
                    for (int i = 0; i < 4; i++) {
                        DUE.be("SIZE", x.block(i % 2 * u, i / 2 * u, 6), sizes[i]);
                    }
                }
            }
        }
    }

    private static void bareNeighboursCountAsMost() {
        DUE.says("the neighbours' sizes (MAX if one is not there, or has SKIP and OTHER)");
        for (int skip = 0; skip < 2; skip++) {
            for (int other = 0; other < 2; other++) {
                VideoDecoder x = grey(48, 32);
                FrameWriter frame = FrameWriter.inter();
                frame.transformMode = 4;
                // The left block has 32 x 32 and SIZE 0, unless it is bare: then MAX of its own.
                frame.m(3, "1").m(20, "0").m(60, "" + skip).m(1101, "" + other);
                boolean bare = skip == 1 && other == 1;
                if (!bare) {
                    frame.m(72, "0");
                }
                if (other == 1) {
                    frame.m(1110, "0").m(1116, "0");
                } else {
                    frame.ladder(993, 0, 9).ladder(1011, 0, 9);
                }
                for (int i = 0; i < 96 && skip == 0; i++) {
                    Numbers.none(frame, 0, i < 64 ? 0 : 1, other == 1, 0);
                }
                // The right one is 16 x 32: 0 for the left and 2 for above are not above 2; 2 and 2 are.
                frame.m(24, "0").m(60 + skip, "1").m(1101 + other, "0");
                frame.m(63 + (bare ? 6 : 0) + 1, "0").ladder(984, 0, 9).ladder(1011, 0, 9);
                decode(x, frame);
                DUE.be("SIZE of the left one", x.block(0, 0, 6), bare ? 3 : 0);
                DUE.be("SIZE of the right one", x.block(5, 3, 6), 0);
            }
        }
    }

    /** Three blocks of 16 x 16 and four of 8 x 8 that are bare, on the left of the last one or above it. */
    private static void smallBareNeighbours() {
        DUE.says("MAX if one has SKIP and OTHER, also if its own size is less");
        for (int above = 0; above < 2; above++) {
            VideoDecoder x = grey(32, 32);
            FrameWriter frame = FrameWriter.inter().m(20, "111");
            frame.transformMode = 4;
            frame.m(40, "0").m(60, "1").m(1101, "0").m(70, "10").ladder(984, 0, 9).ladder(1011, 0, 9);
            for (int i = 0; i < 2; i++) {
                if (i == above) {
                    // Beside the first one: MAX, which is not there, and 1 are above 2.
                    frame.m(40, "0").m(61, "1").m(1101, "0").m(70, "10");
                    frame.ladder(984, 0, 9).ladder(1011, 0, 9);
                } else {
                    frame.m(40, "111");
                    bareEights(frame, i == 0);
                }
            }
            frame.m(above == 1 ? 45 : 50, "0").m(62, "1").m(1102, "0").m(70, "10");
            decode(x, frame.ladder(984, 0, 9).ladder(1011, 0, 9));
            DUE.be("SIZE", x.block(3, 3, 6), 1);
            DUE.be("blocks", x.count(3), 7);
        }
    }

    /** The first and third (or first and second) of them have the block that is not OTHER beside them. */
    private static void bareEights(FrameWriter frame, boolean rightOfIt) {
        for (int i = 0; i < 4; i++) {
            boolean besideOwn = rightOfIt ? i % 2 == 0 : i < 2;
            boolean hasSecond = rightOfIt ? i >= 2 : i % 2 == 1;
            int others = (besideOwn ? 0 : 1) + (hasSecond ? 1 : 0);
            frame.m(61 + (hasSecond ? 1 : 0), "1").m(1101 + others, "1").m(1110 + 2 * others, "0").m(1116, "0");
        }
    }

    private static void stillModes() {
        DUE.says("one by one: M(first + i): 1 is the next, 0 it is i, up to 9");
        for (int mode = 0; mode < 10; mode++) {
            VideoDecoder x = new VideoDecoder();
            FrameWriter frame = FrameWriter.key(8, 8).m(60, "1").ladder(75, mode, 9).ladder(1011 + 9 * mode, 0, 9);
            decode(x, frame);
            DUE.be("mode", x.block(0, 0, 7), mode);
            DUE.be("bits", x.count(4), 1 + Math.min(9, mode + 1) + 1);
        }
    }

    private static void modesByNeighbours() {
        DUE.says("STILL: by models from 75 + 9 * (10 * a + l), a, l the modes of the neighbours (0 if not there)");
        for (int a = 0; a < 10; a++) {
            for (int l = 0; l < 10; l++) {
                FrameWriter frame = FrameWriter.key(16, 16).m(40, "111");
                int[] modes = {3, a, l, 9};
                for (int i = 0; i < 4; i++) {
                    int above = i < 2 ? 0 : modes[i - 2];
                    int left = i % 2 == 0 ? 0 : modes[i - 1];
                    frame.m(60 + with(i, 1, 1), "1").ladder(75 + 9 * (10 * above + left), modes[i], 9);
                    frame.ladder(1011 + 9 * modes[i], 0, 9);
                }
                VideoDecoder x = new VideoDecoder();
                decode(x, frame);
                for (int i = 0; i < 4; i++) {
                    DUE.be("mode", x.block(i % 2, i / 2, 7), modes[i]);
                }
            }
        }
    }

    private static void modesOfOtherFrames() {
        DUE.says("else from 975 + 9 * (0 .. 3 for SIDES' lesser 8, 16, 32, 64)");
        int[][] sides = {{8, 8}, {16, 8}, {16, 16}, {16, 32}, {32, 32}, {64, 32}, {64, 64}};
        int[] groups = {0, 0, 1, 1, 2, 2, 3};
        for (int i = 0; i < sides.length; i++) {
            for (int mode : new int[] {0, 5, 9}) {
                VideoDecoder x = grey(sides[i][0], sides[i][1]);
                FrameWriter frame = sized(sides[i][0], sides[i][1]);
                frame.inter = true;
                frame.m(60, "1").m(1101, "0").ladder(975 + 9 * groups[i], mode, 9).ladder(1011 + 9 * mode, 1, 9);
                decode(x, frame);
                DUE.be("mode", x.block(0, 0, 7), mode);
            }
        }
    }

    private static void chromaModes() {
        DUE.says("then its chroma mode from 1011 + 9 * mode");
        for (int mode = 0; mode < 10; mode++) {
            for (int chroma = 0; chroma < 10; chroma++) {
                VideoDecoder x = new VideoDecoder();
                FrameWriter frame = FrameWriter.key(8, 8).m(60, "1").ladder(75, mode, 9);
                decode(x, frame.ladder(1011 + 9 * mode, chroma, 9));
                DUE.be("chroma mode", x.block(0, 0, 8), chroma);
            }
        }
    }

    private static void singleReferences() {
        DUE.says("n neighbours with OTHER whose first is 0: M(1110 + 2 * n): 0: 0; M(1111 + 2 * n): 0: 1, 1: 2");
        for (int a = -1; a < 3; a++) {
            for (int l = -1; l < 3; l++) {
                VideoDecoder x = grey(16, 16);
                FrameWriter frame = FrameWriter.inter().m(40, "111");
                int[] firsts = {-1, a, l, 2};
                for (int i = 0; i < 4; i++) {
                    int above = i < 2 ? -1 : firsts[i - 2];
                    int left = i % 2 == 0 ? -1 : firsts[i - 1];
                    int others = (above >= 0 ? 1 : 0) + (left >= 0 ? 1 : 0);
                    int n = (above == 0 ? 1 : 0) + (left == 0 ? 1 : 0);
                    frame.m(60 + with(i, 1, 1), "1").m(1101 + others, firsts[i] >= 0 ? "1" : "0");
                    if (firsts[i] >= 0) {
                        frame.ladder(1110 + 2 * n, firsts[i], 2).m(1116, "0");
                    } else {
                        own(frame);
                    }
                }
                decode(x, frame);
                for (int i = 0; i < 4; i++) {
                    DUE.be("REFERENCE", x.block(i % 2, i / 2, 9), firsts[i]);
                }
            }
        }
    }

    private static void doublesByNeighbours() {
        DUE.says("M(1104 + n), n neighbours that are DOUBLE");
        for (int doubles = 0; doubles < 16; doubles++) {
            VideoDecoder x = grey(16, 16);
            FrameWriter frame = FrameWriter.inter().m(40, "111");
            frame.sides[2] = 1;
            frame.doubling = 2;
            for (int i = 0; i < 4; i++) {
                int n = with(i, doubles >> i - 2 & 1, doubles >> i - 1 & 1);
                frame.m(60 + with(i, 1, 1), "1").m(1101 + with(i, 1, 1), "1").m(1104 + n, "" + (doubles >> i & 1));
                // Single blocks by REFERENCE 2: they are not DOUBLE, and their first is not 0.
                if ((doubles >> i & 1) == 1) {
                    frame.m(1107, "1").m(1116, "0");
                } else {
                    frame.m(1110, "11").m(1116, "0");
                }
            }
            decode(x, frame);
            for (int i = 0; i < 4; i++) {
                DUE.be("second", x.block(i % 2, i / 2, 10), (doubles >> i & 1) == 1 ? 2 : -1);
            }
        }
    }

    private static void pairsByNeighbours() {
        DUE.says("M(1107 + n): 0 REFERENCES 0 and 2, 1: 1 and 2, n neighbours whose first is 0");
        for (int pairs = 0; pairs < 16; pairs++) {
            VideoDecoder x = grey(16, 16);
            FrameWriter frame = FrameWriter.inter().m(40, "111");
            frame.sides[1] = 1;
            frame.doubling = 1;
            for (int i = 0; i < 4; i++) {
                int n = with(i, 1 - (pairs >> i - 2 & 1), 1 - (pairs >> i - 1 & 1));
                frame.m(60 + with(i, 1, 1), "1").m(1101 + with(i, 1, 1), "1").m(1107 + n, "" + (pairs >> i & 1));
                frame.m(1116, "0");
            }
            decode(x, frame);
            for (int i = 0; i < 4; i++) {
                DUE.be("first", x.block(i % 2, i / 2, 9), pairs >> i & 1);
                DUE.be("second", x.block(i % 2, i / 2, 10), 2);
            }
        }
    }

    private static void kinds() {
        DUE.says("M: 0 ZERO; M: 0 NEAREST; M: 0 NEAR, 1 NEW");
        String[] bits = {"0", "10", "110", "111"};
        for (int kind = 0; kind < 4; kind++) {
            VideoDecoder x = grey(8, 8);
            FrameWriter frame = FrameWriter.inter().m(60, "1").m(1101, "1").m(1110, "0").m(1116, bits[kind]);
            decode(x, kind == 3 ? frame.m(1128, "0") : frame);
            DUE.be("KIND", x.block(0, 0, 11), kind);
        }
    }

    private static void kindsByNeighbours() {
        DUE.says("n of the first two PLACES below that are there, OTHER and of KIND NEW: from 1116 + 3 * n");
        for (int news = 0; news < 16; news++) {
            VideoDecoder x = grey(16, 16);
            FrameWriter frame = FrameWriter.inter().m(40, "111");
            for (int i = 0; i < 4; i++) {
                int n = with(i, news >> i - 2 & 1, news >> i - 1 & 1);
                int firsts = with(i, 1, 1);
                frame.m(60 + firsts, "1").m(1101 + firsts, "1").m(1110 + 2 * firsts, "0");
                if ((news >> i & 1) == 1) {
                    frame.m(1116 + 3 * n, "111").m(1128, "0");
                } else {
                    frame.m(1116 + 3 * n, i % 2 == 0 ? "10" : "110");
                }
            }
            decode(x, frame);
            for (int i = 0; i < 4; i++) {
                DUE.be("KIND", x.block(i % 2, i / 2, 11), (news >> i & 1) == 1 ? 3 : 1 + i % 2);
            }
        }
    }

    private static void kernelsByNeighbours() {
        DUE.says("KERNEL 2: M(1125 + n), n neighbours with OTHER and KERNEL 1");
        for (int kernels = 0; kernels < 16; kernels++) {
            VideoDecoder x = grey(16, 16);
            FrameWriter frame = FrameWriter.inter().m(40, "111");
            frame.kernel = 2;
            for (int i = 0; i < 4; i++) {
                int firsts = with(i, 1, 1);
                int n = with(i, kernels >> i - 2 & 1, kernels >> i - 1 & 1);
                frame.m(60 + firsts, "1").m(1101 + firsts, "1").m(1110 + 2 * firsts, "0").m(1116, "0");
                frame.m(1125 + n, "" + (kernels >> i & 1));
            }
            decode(x, frame);
            for (int i = 0; i < 4; i++) {
                DUE.be("KERNEL", x.block(i % 2, i / 2, 16), kernels >> i & 1);
            }
        }
    }

    private static void answersOfBlocksThatAreNotOther() {
        DUE.says("7 mode, -1 if OTHER; 8 chroma mode, -1; 9 first REFERENCE, -1 if not OTHER; 10 second, -1;"
                + " 11 KIND, -1; 12, 13 first vector, 14, 15 second, 0 if none; 16 KERNEL, -1");
        VideoDecoder x = grey(16, 8);
        FrameWriter frame = FrameWriter.inter().m(43, "1").m(60, "1").m(1101, "0").ladder(975, 3, 9).ladder(1038, 4, 9);
        frame.kernel = 1;
        frame.m(61, "1").m(1101, "1").m(1110, "10").m(1116, "111").m(1128, "10").m(1158, "0").m(1159, "0");
        decode(x, frame.m(1166, "0").m(1174, "00"));
        int[] own = {3, 4, -1, -1, -1, 0, 0, 0, 0, -1};
        int[] other = {-1, -1, 1, -1, 3, 2, 0, 0, 0, 1};
        for (int i = 0; i < own.length; i++) {
            DUE.be("own " + (7 + i), x.block(0, 0, 7 + i), own[i]);
            DUE.be("OTHER " + (7 + i), x.block(1, 0, 7 + i), other[i]);
        }
    }
}
