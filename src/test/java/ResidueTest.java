import java.util.List;

/** RESIDUE and TRANSFORM: which squares have numbers, how these are read, and what they become. */
public final class ResidueTest {
    private static final Due DUE = new Due();

    public static void main(String[] args) {
        squaresOfUnitsInside();
        squaresOfChroma();
        squaresRowByRow();
        skipHasNone();
        scansByMode();
        bandsAndGrades();
        untilTheSquareIsFull();
        notReadBehindZero();
        neighboursWithNumbers();
        numbersThatAreAllZero();
        numbersOutsideOfThePicture();
        numbersOfLargeSquares();
        skipNeighboursHaveNone();
        neighboursInLargePictures();
        tails();
        productsAreHeld();
        columnsAreHeld();
        quantiserOfBase();
        quantiserOfSegments();
        quantiserWithDeltas();
        losslessTimesOne();
        losslessShiftsWithSign();
        transformsOfAllSizes();
        slopesOnlyInPlaneZero();
        clippedSamples();
        DUE.close("ResidueTest");
    }

    private static VideoDecoder decoded(FrameWriter frame) {
        VideoDecoder x = new VideoDecoder();
        Calls.decodeLearning(DUE, x, frame);
        return x;
    }

    /** One block of this size of transform, which it fills: 8, 16 or 32 samples. */
    private static FrameWriter square(int size, int mode, int chroma) {
        int side = 4 << size;
        FrameWriter frame = FrameWriter.key(side, side);
        frame.transformMode = size;
        if (size > 1) {
            frame.m(size == 2 ? 40 : 20, "0");
        }
        return frame.m(60, "0").ladder(75, mode, 9).ladder(1011 + 9 * mode, chroma, 9);
    }

    /** Chroma squares of such a block, empty. */
    private static void emptyChroma(FrameWriter frame, int size) {
        Numbers.none(frame, size - 1, 1, false, 0);
        Numbers.none(frame, size - 1, 2, false, 0);
    }

    private static void squaresOfUnitsInside() {
        DUE.says("squares of the SIZE, those whose first sample is in a UNIT INSIDE");
        for (int side : new int[] {33, 40, 41, 57, 64}) {
            for (int size = 0; size < 4; size++) {
                FrameWriter frame = FrameWriter.key(side, side).m(0, "0").m(60, "0").ladder(75, 0, 9).ladder(1011, 0, 9);
                frame.transformMode = size;
                int inside = (side + 7) / 8 * 8;
                int across = (inside + (4 << size) - 1) / (4 << size);
                int acrossChroma = (inside / 2 + (4 << size) - 1) / (4 << size);
                for (int i = 0; i < across * across; i++) {
                    Numbers.none(frame, size, 0, false, 0);
                }
                for (int i = 0; i < 2 * acrossChroma * acrossChroma; i++) {
                    Numbers.none(frame, size, 1, false, 0);
                }
                decoded(frame);
            }
        }
    }

    private static void squaresOfChroma() {
        DUE.says("planes 1, 2: the lesser of SIZE and half of the block's lesser side");
        int[][] sides = {{8, 8}, {16, 8}, {8, 16}, {16, 16}, {32, 16}, {32, 32}, {64, 32}, {64, 64}};
        int[] most = {0, 0, 0, 1, 1, 2, 2, 3};
        for (int i = 0; i < sides.length; i++) {
            int wide = sides[i][0];
            int high = sides[i][1];
            for (int mode = 0; mode < 4; mode++) {
                int longer = Math.max(wide, high);
                int k = longer == 64 ? 0 : longer == 32 ? 20 : 40;
                FrameWriter frame = FrameWriter.key(wide, high);
                if (longer > 8) {
                    frame.m(wide == high ? k : wide > high ? k + 3 : k + 4, "0");
                }
                frame.transformMode = mode;
                frame.m(60, "0").ladder(75, 0, 9).ladder(1011, 0, 9);
                int size = Math.min(mode, Math.min(3, most[i] + 1));
                int chroma = Math.min(size, most[i]);
                for (int j = 0; j < wide * high >> 2 * size + 4; j++) {
                    Numbers.none(frame, size, 0, false, 0);
                }
                for (int j = 0; j < wide * high / 2 >> 2 * chroma + 4; j++) {
                    Numbers.none(frame, chroma, 1, false, 0);
                }
                decoded(frame);
            }
        }
    }

    private static void squaresRowByRow() {
        DUE.says("plane by plane, in squares of the SIZE, row by row");
        for (int at = 0; at < 4; at++) {
            FrameWriter frame = FrameWriter.key(8, 8).m(60, "0").ladder(75, 1, 9).ladder(1020, 1, 9);
            for (int i = 0; i < 4; i++) {
                int c = i == 1 && at == 0 || i == 2 && at == 0 || i == 3 && (at == 1 || at == 2) ? 1 : 0;
                if (i == at) {
                    Numbers.write(frame, 0, 0, false, 1, c, -60);
                } else {
                    Numbers.none(frame, 0, 0, false, c);
                }
            }
            Numbers.none(frame, 0, 1, false, 0);
            Numbers.none(frame, 0, 2, false, 0);
            VideoDecoder x = decoded(frame);
            // By mode V the upper squares go on downwards; a square without a dark one above is 127.
            for (int i = 0; i < 4; i++) {
                boolean dark = i == at || i == at + 2;
                DUE.be("square " + i, x.sample(0, 0, i % 2 * 4 + 3, i / 2 * 4 + 3) < 127 ? 1 : 0, dark ? 1 : 0);
            }
        }
        for (int plane = 0; plane < 3; plane++) {
            FrameWriter frame = square(1, 0, 0);
            for (int p = 0; p < 3; p++) {
                if (p == plane) {
                    Numbers.write(frame, p == 0 ? 1 : 0, p, false, 0, 0, 9);
                } else {
                    Numbers.none(frame, p == 0 ? 1 : 0, p, false, 0);
                }
            }
            VideoDecoder x = decoded(frame);
            for (int p = 0; p < 3; p++) {
                DUE.be("plane " + p, x.sample(0, p, 3, 3) > 128 ? 1 : 0, p == plane ? 1 : 0);
            }
        }
    }

    private static void skipHasNone() {
        DUE.says("With SKIP none");
        FrameWriter frame = FrameWriter.key(64, 64).m(0, "0").m(60, "1").ladder(75, 0, 9).ladder(1011, 0, 9);
        VideoDecoder x = decoded(frame);
        DUE.be("count 4", x.count(4), 4);
        DUE.be("count 5", x.count(5), 0);
    }

    private static int without(int mode, int x, int y) {
        switch (mode) {
            case 0:
                return 128;
            case 4:
                return x == y ? 128 : x > y ? 127 : 129;
            case 5:
                return 2 * x - y >= 0 ? 127 : 2 * x - y == -1 ? 128 : 129;
            case 6:
                return 2 * y - x == 0 || 2 * y - x == -1 ? 128 : 2 * y - x > 0 ? 129 : 127;
            case 1:
            case 3:
            case 8:
                return 127;
            default:
                return 129;
        }
    }

    private static int clip(int v) {
        return Math.max(0, Math.min(255, v));
    }

    private static void scansByMode() {
        DUE.says("ordered by (key, then y): key x + y; but in plane 0 of blocks that are not OTHER, squares of 4 and 8:"
                + " modes 1, 5, 8: key 4 * y + x, modes 2, 6, 7: key y + 4 * x");
        for (int size = 0; size < 4; size++) {
            for (int mode = 0; mode < 10; mode++) {
                int order = size > 1 ? 0 : mode == 1 || mode == 5 || mode == 8 ? 1
                        : mode == 2 || mode == 6 || mode == 7 ? 2 : 0;
                int side = 4 << size;
                int last = side * side - 1;
                for (int place : new int[] {1, 2, 3, 4, 5, 6, 9, last - 1, last}) {
                    scanned(size, mode, order, place);
                }
            }
        }
    }

    /** A number at a place of the scan, all others being 0. */
    private static void scanned(int size, int mode, int order, int place) {
        int side = 4 << size;
        FrameWriter frame = size == 0
                ? FrameWriter.key(4, 4).m(60, "0").ladder(75, mode, 9).ladder(1011 + 9 * mode, 0, 9)
                : square(size, mode, 0);
        frame.transformMode = size;
        int[] numbers = new int[place + 1];
        numbers[place] = 5;
        Numbers.write(frame, size, 0, false, order, 0, numbers);
        if (size == 0) {
            Numbers.none(frame, 0, 0, false, 1);
            Numbers.none(frame, 0, 0, false, 1);
            Numbers.none(frame, 0, 0, false, 0);
            emptyChroma(frame, 1);
        } else {
            emptyChroma(frame, size);
        }
        VideoDecoder x = decoded(frame);
        List<int[]> places = Numbers.scan(side, order);
        int[][] all = new int[side][side];
        all[places.get(place)[1]][places.get(place)[0]] = 5 * 1275;
        int[][] due = Numbers.turned(side, size == 0, all);
        for (int v = 0; v < side; v++) {
            for (int h = 0; h < side; h++) {
                int want = clip(without(mode, h, v) + due[v][h]);
                DUE.be("size " + size + " mode " + mode + " place " + place, x.sample(0, 0, h, v), want);
            }
        }
    }

    private static void bandsAndGrades() {
        DUE.says("b 0 for i 0, 1 for 1, 2, 2 for 3 .. 5, 3 for 6 .. 9, 4 for 10 .. 20, 5 beyond;"
                + " E of amount 0, 1, 2, 3 .. 4, 5 .. 10, more; one that is outside of it counts as the other");
        int[] cycle = {11, 10, 5, 4, 3, 2, 1, 0, 1, 10, 11, 3, 0, 5, 12, 2};
        for (int size = 1; size < 4; size++) {
            for (int order = 0; order < (size == 1 ? 3 : 1); order++) {
                for (int shift = 0; shift < cycle.length; shift++) {
                    int[] numbers = new int[60];
                    for (int i = 0; i < numbers.length; i++) {
                        numbers[i] = cycle[(i * 7 + shift) % 16] * (i % 3 == 0 ? -1 : 1);
                    }
                    numbers[59] = 2;
                    FrameWriter frame = square(size, order, 0);
                    Numbers.write(frame, size, 0, false, order, 0, numbers);
                    emptyChroma(frame, size);
                    decoded(frame);
                }
            }
        }
    }

    private static void untilTheSquareIsFull() {
        DUE.says("At place i of the SCAN, until the square is full");
        for (int size = 1; size < 4; size++) {
            int side = 4 << size;
            int[] numbers = new int[side * side];
            for (int i = 0; i < numbers.length; i++) {
                numbers[i] = i % 2 == 0 ? 1 : -1;
            }
            FrameWriter frame = square(size, 0, 0);
            Numbers.write(frame, size, 0, false, 0, 0, numbers);
            // In plane 1 the last place is 0: nothing is read behind it, either.
            int[] chroma = new int[side * side / 4];
            chroma[0] = 2;
            Numbers.write(frame, size - 1, 1, false, 0, 0, chroma);
            Numbers.write(frame, size - 1, 2, false, 0, 0, 1);
            VideoDecoder x = decoded(frame);
            DUE.be("count 5", x.count(5), numbers.length + 2);
        }
    }

    private static void notReadBehindZero() {
        DUE.says("M(m), not read at a place right behind a number that is 0: 0: there are no more");
        FrameWriter frame = square(1, 0, 0);
        int m = 1185 + 3 * (6 * 6 * 4);
        // Zero first: its second bit alone; then 1; then no more.
        frame.m(m, "10").m(m + 3 * 6 + 1, "10").l(1, 0).m(m + 3 * 6, "0");
        emptyChroma(frame, 1);
        VideoDecoder x = decoded(frame);
        DUE.be("count 5", x.count(5), 1);
    }

    private static void neighboursWithNumbers() {
        DUE.says("c for i 0: how many of the squares of 4 samples above and left are in a block that is there"
                + " and have NUMBERS");
        for (int have = 0; have < 16; have++) {
            // Four blocks of 8 x 8 with one square in plane 0 and two in chroma, each alike.
            FrameWriter frame = FrameWriter.key(16, 16).m(40, "111");
            frame.transformMode = 1;
            for (int i = 0; i < 4; i++) {
                int c = (i < 2 ? 0 : have >> i - 2 & 1) + (i % 2 == 0 ? 0 : have >> i - 1 & 1);
                frame.m(60, "0").ladder(75, 0, 9).ladder(1011, 0, 9);
                for (int plane = 0; plane < 3; plane++) {
                    if ((have >> i & 1) == 1) {
                        Numbers.write(frame, plane == 0 ? 1 : 0, plane, false, 0, c, 1);
                    } else {
                        Numbers.none(frame, plane == 0 ? 1 : 0, plane, false, c);
                    }
                }
            }
            DUE.be("count 5", decoded(frame).count(5), 3 * Integer.bitCount(have));
        }
    }

    private static void numbersThatAreAllZero() {
        DUE.says("\"Have NUMBERS\": each of a square whose first M(m) was 1");
        FrameWriter frame = FrameWriter.key(16, 8).m(43, "1");
        frame.transformMode = 1;
        frame.m(60, "0").ladder(75, 0, 9).ladder(1011, 0, 9);
        Numbers.write(frame, 1, 0, false, 0, 0, new int[64]);
        emptyChroma(frame, 1);
        frame.m(60, "0").ladder(75, 0, 9).ladder(1011, 0, 9);
        Numbers.none(frame, 1, 0, false, 1);
        emptyChroma(frame, 1);
        VideoDecoder x = decoded(frame);
        DUE.be("count 5", x.count(5), 0);
        DUE.be("sample", x.sample(0, 0, 3, 3), 128);
    }

    private static void numbersOutsideOfThePicture() {
        DUE.says("each square of 4 samples (also outside of the picture)");
        FrameWriter frame = FrameWriter.key(1, 1).m(60, "0").ladder(75, 0, 9).ladder(1011, 0, 9);
        Numbers.none(frame, 0, 0, false, 0);
        Numbers.write(frame, 0, 0, false, 0, 0, 3);
        Numbers.write(frame, 0, 0, false, 0, 0, -3);
        Numbers.none(frame, 0, 0, false, 2);
        Numbers.none(frame, 0, 1, false, 0);
        Numbers.none(frame, 0, 2, false, 0);
        DUE.be("count 5", decoded(frame).count(5), 2);
    }

    private static void numbersOfLargeSquares() {
        DUE.says("each square of 4 samples of a square");
        // 24 x 16: a block of 16 x 16 with one square, then two of 8 x 8 at its right side.
        FrameWriter frame = FrameWriter.key(24, 16).m(23, "1").m(40, "0").m(60, "0").ladder(75, 0, 9).ladder(1011, 0, 9);
        frame.transformMode = 2;
        Numbers.write(frame, 2, 0, false, 0, 0, 7);
        Numbers.write(frame, 1, 1, false, 0, 0, 7);
        Numbers.none(frame, 1, 2, false, 0);
        frame.m(44, "1");
        for (int i = 0; i < 2; i++) {
            frame.m(60, "0").ladder(75, 0, 9).ladder(1011, 0, 9);
            Numbers.none(frame, 1, 0, false, 1);
            Numbers.none(frame, 0, 1, false, 1);
            Numbers.none(frame, 0, 2, false, 0);
        }
        DUE.be("blocks", decoded(frame).count(3), 3);
    }

    private static void skipNeighboursHaveNone() {
        DUE.says("SKIP: none has");
        for (int skip = 0; skip < 2; skip++) {
            FrameWriter first = FrameWriter.key(16, 8).m(43, "1");
            first.transformMode = 1;
            for (int i = 0; i < 2; i++) {
                first.m(60, "0").ladder(75, 0, 9).ladder(1011, 0, 9);
                for (int plane = 0; plane < 3; plane++) {
                    Numbers.write(first, plane == 0 ? 1 : 0, plane, false, 0, i, 1);
                }
            }
            VideoDecoder x = decoded(first);
            // What had NUMBERS in the frame before is forgotten.
            FrameWriter next = FrameWriter.inter().startFrom(x).m(43, "1").m(60, "1").m(1101, "" + skip);
            next.transformMode = 1;
            if (skip == 1) {
                next.m(1110, "0").m(1116, "0");
            } else {
                next.ladder(975, 0, 9).ladder(1011, 0, 9);
            }
            next.m(61, "0").m(1101 + skip, "0").ladder(975, 0, 9).ladder(1011, 0, 9);
            Numbers.none(next, 1, 0, false, 0);
            emptyChroma(next, 1);
            Calls.decodeLearning(DUE, x, next);
        }
    }

    private static void neighboursInLargePictures() {
        DUE.says("squares of 4 samples above and left, of this plane: in the largest picture, too");
        for (int with = 0; with < 9; with++) {
            // One of nine blocks of 64 x 64 has NUMBERS; of the others none has, but for SKIP they could.
            FrameWriter frame = FrameWriter.key(192, 192);
            frame.transformMode = 3;
            for (int i = 0; i < 9; i++) {
                frame.m(0, "0").m(60, "0").ladder(75, 0, 9).ladder(1011, 0, 9);
                int above = i == with + 3 ? 1 : 0;
                int left = i == with + 1 && i % 3 > 0 ? 1 : 0;
                for (int at = 0; at < 6; at++) {
                    int plane = at < 4 ? 0 : at - 3;
                    int inside = at == 0 || at > 3 ? 0 : at == 3 ? 2 : 1;
                    int outside = at > 3 || at == 0 ? above + left : at == 1 ? above : at == 2 ? left : 0;
                    if (i == with) {
                        Numbers.write(frame, 3, plane, false, 0, inside, 1);
                    } else {
                        Numbers.none(frame, 3, plane, false, outside);
                    }
                }
            }
            DUE.be("count 5", decoded(frame).count(5), 6);
        }
    }

    private static void tails() {
        DUE.says("TAIL: u = how many ones until a 0 or 14 were read; 2 to the u, less 1, plus L(u)");
        for (int u = 0; u <= 14; u++) {
            for (int rest : new int[] {0, (1 << u) - 1}) {
                FrameWriter frame = square(1, 0, 0);
                frame.base = 0;
                frame.deltas[2] = 1;
                int amount = 2 + (1 << u) - 1 + rest;
                int m = 1185 + 3 * 36 * 4;
                frame.m(m, "111").ladder(2913, u, 14).l(u, rest).l(1, 1).m(m + 18 + 3 * Numbers.grade(amount), "0");
                int mc = 1185 + 3 * 36 * 2;
                Numbers.none(frame, 0, 1, false, 0);
                frame.m(mc, "111").ladder(2927, u, 14).l(u, rest).l(1, 0).m(mc + 18 + 3 * Numbers.grade(amount), "0");
                VideoDecoder x = decoded(frame);
                int[][] numbers = new int[8][8];
                numbers[0][0] = Math.max(-32768, -4 * amount);
                DUE.be("amount " + amount, x.sample(0, 0, 0, 0), clip(128 + Numbers.turned(8, false, numbers)[0][0]));
                numbers = new int[4][4];
                numbers[0][0] = Math.min(32767, 4 * amount);
                DUE.be("amount " + amount, x.sample(0, 2, 0, 0), clip(128 + Numbers.turned(4, false, numbers)[0][0]));
            }
        }
    }

    /** A square of 8 x 8 in plane 0 with numbers in the order of the scan, against the turned ones. */
    private static void turned(FrameWriter frame, int size, int quantiser, int others, int... numbers) {
        int side = 4 << size;
        Numbers.write(frame, size, 0, false, 0, 0, numbers);
        emptyChroma(frame, size);
        VideoDecoder x = decoded(frame);
        List<int[]> places = Numbers.scan(side, 0);
        int[][] all = new int[side][side];
        for (int i = 0; i < numbers.length; i++) {
            long product = (long) numbers[i] * (i == 0 ? quantiser : others);
            all[places.get(i)[1]][places.get(i)[0]] = (int) Math.max(-32768, Math.min(32767, product));
        }
        int[][] due = Numbers.turned(side, false, all);
        for (int v = 0; v < side; v++) {
            for (int h = 0; h < side; h++) {
                DUE.be("sample " + h + ", " + v, x.sample(0, 0, h, v), clip(128 + due[v][h]));
            }
        }
    }

    private static void productsAreHeld() {
        DUE.says("A number times the quantiser is held within -32768 .. 32767");
        // The second number takes away what the first one adds beyond the limits of a sample.
        turned(square(1, 0, 0), 1, 767, 1275, 10000, -10000);
        turned(square(1, 0, 0), 1, 767, 1275, -10000, 10000);
        turned(square(1, 0, 0), 1, 767, 1275, 43, -26);
        turned(square(1, 0, 0), 1, 767, 1275, 42, -25);
        turned(square(2, 0, 0), 2, 767, 1275, 32768, -32768, 3);
        turned(square(3, 0, 0), 3, 767, 1275, -32768, 32768, 20);
        // The largest amounts and quantiser together: no product may wrap round.
        turned(square(1, 0, 0), 1, 767, 1275, 32768, -32768, -32768);
    }

    private static void columnsAreHeld() {
        DUE.says("First each column: c(y) = R(.., 7), within -32768 .. 32767");
        for (int size = 1; size < 4; size++) {
            // Places 0 and 2 are in the first column, 1 and 4 in the second.
            turned(square(size, 0, 0), size, 767, 1275, 10000, -10000, 10000, 0, -7);
            turned(square(size, 0, 0), size, 767, 1275, -10000, 10000, -10000, 0, 7);
            turned(square(size, 0, 0), size, 767, 1275, 10000, -10000, 10000, 10000, -10000, 10000);
        }
    }

    private static int first(int i) {
        return 4 + i + i * i / 128;
    }

    private static int others(int i) {
        return 4 + i + i * i / 64;
    }

    private static int index(int i) {
        return Math.max(0, Math.min(255, i));
    }

    /** Numbers in all planes that show the four quantisers. */
    private static void quantised(FrameWriter frame, int... indexes) {
        int[] quantisers = {first(indexes[0]), others(indexes[1]), first(indexes[2]), others(indexes[3])};
        int[][] amounts = new int[2][2];
        for (int i = 0; i < 4; i++) {
            amounts[i / 2][i % 2] = 7000 / quantisers[i];
        }
        VideoDecoder x = new VideoDecoder();
        frame.transformMode = 1;
        frame.m(60, "0").ladder(75, 0, 9).ladder(1011, 0, 9);
        for (int plane = 0; plane < 3; plane++) {
            int[] its = amounts[plane == 0 ? 0 : 1];
            Numbers.write(frame, plane == 0 ? 1 : 0, plane, false, 0, 0, its[0], its[1]);
        }
        Calls.decodeLearning(DUE, x, frame);
        for (int plane = 0; plane < 3; plane++) {
            int side = plane == 0 ? 8 : 4;
            int t = plane == 0 ? 0 : 1;
            int[][] numbers = new int[side][side];
            numbers[0][0] = amounts[t][0] * quantisers[2 * t];
            numbers[0][1] = amounts[t][1] * quantisers[2 * t + 1];
            int[][] due = Numbers.turned(side, false, numbers);
            for (int h = 0; h < side; h++) {
                DUE.be("plane " + plane + " sample " + h, x.sample(0, plane, h, 1), clip(128 + due[1][h]));
            }
        }
    }

    private static void quantiserOfBase() {
        DUE.says("First number (x and y 0): 4 + i + i * i / 128, others: 4 + i + i * i / 64");
        for (int base : new int[] {1, 7, 8, 11, 12, 63, 64, 127, 128, 254, 255}) {
            FrameWriter frame = FrameWriter.key(8, 8);
            frame.base = base;
            quantised(frame, base, base, base, base);
        }
    }

    private static void quantiserOfSegments() {
        DUE.says("a segment with one: ABSOLUTE: it, else BASE plus it; within 0 .. 255");
        for (int base : new int[] {1, 100, 255}) {
            for (int told : new int[] {-255, -101, -100, -99, -1, 0, 1, 155, 156, 255}) {
                for (int absolute = 0; absolute < 2; absolute++) {
                    FrameWriter frame = FrameWriter.key(8, 8);
                    frame.base = base;
                    frame.inUse = true;
                    frame.featuresTold = true;
                    frame.absolute = absolute == 1;
                    frame.features[0][0] = told;
                    int i = index(absolute == 1 ? told : base + told);
                    quantised(frame, i, i, i, i);
                }
            }
        }
    }

    private static void quantiserWithDeltas() {
        DUE.says("plus the DELTA, within 0 .. 255: i. (Plane 0's others have no DELTA.)");
        for (int base : new int[] {1, 14, 15, 16, 100, 240, 241, 255}) {
            for (int which = 0; which < 3; which++) {
                for (int delta : new int[] {-15, -1, 1, 15}) {
                    FrameWriter frame = FrameWriter.key(8, 8);
                    frame.base = base;
                    frame.deltas[which] = delta;
                    int[] i = {base, base, base, base};
                    i[which == 0 ? 0 : which + 1] = index(base + delta);
                    quantised(frame, i);
                }
            }
        }
        // Held once before the DELTA and once behind it.
        FrameWriter frame = FrameWriter.key(8, 8);
        frame.base = 200;
        frame.inUse = true;
        frame.featuresTold = true;
        frame.features[0][0] = 200;
        frame.deltas = new int[] {-15, -10, -5};
        quantised(frame, 240, 255, 245, 250);
        frame = FrameWriter.key(8, 8);
        frame.base = 20;
        frame.inUse = true;
        frame.featuresTold = true;
        frame.features[0][0] = -200;
        frame.deltas = new int[] {15, 10, 5};
        quantised(frame, 15, 0, 10, 5);
    }

    private static int[] four(int a, int b, int c, int d) {
        a += b;
        d -= c;
        int e = a - d >> 1;
        b = e - b;
        c = e - c;
        return new int[] {a - b, b, c, d + c};
    }

    /** The exact transform of numbers row by row: first the rows, then the columns. */
    private static int[][] exact(int[][] numbers) {
        int[][] rows = new int[4][];
        int[][] out = new int[4][4];
        for (int y = 0; y < 4; y++) {
            rows[y] = four(numbers[y][0], numbers[y][1], numbers[y][2], numbers[y][3]);
        }
        for (int x = 0; x < 4; x++) {
            int[] column = four(rows[0][x], rows[1][x], rows[2][x], rows[3][x]);
            for (int y = 0; y < 4; y++) {
                out[y][x] = column[y];
            }
        }
        return out;
    }

    private static void lossless(FrameWriter frame, int... numbers) {
        frame.base = 0;
        frame.m(60, "0").ladder(75, 0, 9).ladder(1011, 0, 9);
        Numbers.write(frame, 0, 0, false, 0, 0, numbers);
        Numbers.none(frame, 0, 0, false, 1);
        Numbers.none(frame, 0, 0, false, 1);
        Numbers.none(frame, 0, 0, false, 0);
        emptyChroma(frame, 1);
        VideoDecoder x = decoded(frame);
        List<int[]> places = Numbers.scan(4, 0);
        int[][] all = new int[4][4];
        for (int i = 0; i < numbers.length; i++) {
            all[places.get(i)[1]][places.get(i)[0]] = Math.max(-32768, Math.min(32767, numbers[i]));
        }
        int[][] due = exact(all);
        for (int v = 0; v < 4; v++) {
            for (int h = 0; h < 4; h++) {
                DUE.be("sample " + h + ", " + v, x.sample(0, 0, h, v), clip(128 + due[v][h]));
            }
        }
    }

    private static void losslessTimesOne() {
        DUE.says("LOSSLESS: times 1");
        lossless(FrameWriter.key(4, 4), 100);
        FrameWriter frame = FrameWriter.key(4, 4);
        frame.inUse = true;
        frame.featuresTold = true;
        frame.absolute = true;
        frame.features[0][0] = 255;
        lossless(frame, 100, 30, -20);
        // Held, too: 32768 becomes 32767, and what the others take away leaves the difference.
        lossless(FrameWriter.key(4, 4), 32768, -32767, 0, 0, 0, -32000);
        lossless(FrameWriter.key(4, 4), 32768, -32768, -32768, 32768);
    }

    private static void losslessShiftsWithSign() {
        DUE.says("e = (a - d) shifted right by 1 with its sign; first the rows, then the columns");
        for (int number : new int[] {1, -1, 3, -3, 7, -7, 255, -255}) {
            for (int place = 0; place < 16; place++) {
                int[] numbers = new int[place + 1];
                numbers[place] = number;
                lossless(FrameWriter.key(4, 4), numbers);
            }
        }
        lossless(FrameWriter.key(4, 4), 5, -3, 7, -1, 9, -11, 13, -15, 17, -19, 21, -23, 25, -27, 29, -31);
    }

    private static void transformsOfAllSizes() {
        DUE.says("G(64 - j) = -G(j), G(128 - j) = G(j), G(128 + j) = G(j); but k 0: 64; R by sign");
        for (int size = 1; size < 4; size++) {
            int side = 4 << size;
            for (int k = 0; k < side; k++) {
                // A number in row k or column k alone.
                for (int down = 0; down < 2; down++) {
                    int place = placeOf(side, down == 1 ? 0 : k, down == 1 ? k : 0);
                    int[] numbers = new int[place + 1];
                    numbers[place] = k % 2 == 0 ? 7 : -7;
                    turned(square(size, 0, 0), size, 767, 1275, numbers);
                }
            }
            int[] all = new int[side * side];
            for (int i = 0; i < all.length; i++) {
                all[i] = i % 5 == 0 ? 0 : i % 2 == 0 ? 1 : -1;
            }
            FrameWriter frame = square(size, 0, 0);
            frame.base = 60;
            turned(frame, size, first(60), others(60), all);
        }
    }

    private static int placeOf(int side, int x, int y) {
        List<int[]> places = Numbers.scan(side, 0);
        for (int i = 0; i < places.size(); i++) {
            if (places.get(i)[0] == x && places.get(i)[1] == y) {
                return i;
            }
        }
        return -1;
    }

    private static void slopesOnlyInPlaneZero() {
        DUE.says("In plane 0 of blocks that are not OTHER, N 4: T's rows k 0 .. 3 are ..");
        for (int other = 0; other < 2; other++) {
            for (int place = 0; place < 16; place++) {
                VideoDecoder x = new VideoDecoder();
                Calls.decode(x, FrameWriter.key(4, 4).bits("100"));
                FrameWriter frame = FrameWriter.inter().m(60, "0").m(1101, "" + other);
                if (other == 1) {
                    frame.m(1110, "0").m(1116, "0");
                } else {
                    frame.ladder(975, 0, 9).ladder(1011, 0, 9);
                }
                int[] numbers = new int[place + 1];
                numbers[place] = -6;
                Numbers.write(frame, 0, 0, other == 1, 0, 0, numbers);
                Numbers.none(frame, 0, 0, other == 1, 1);
                Numbers.none(frame, 0, 0, other == 1, 1);
                Numbers.none(frame, 0, 0, other == 1, 0);
                Numbers.write(frame, 0, 1, other == 1, 0, 0, numbers);
                Numbers.none(frame, 0, 2, other == 1, 0);
                Calls.decodeLearning(DUE, x, frame);
                int[][] all = new int[4][4];
                int[] at = Numbers.scan(4, 0).get(place);
                all[at[1]][at[0]] = -6 * (place == 0 ? 767 : 1275);
                int[][] plane0 = Numbers.turned(4, other == 0, all);
                int[][] plane1 = Numbers.turned(4, false, all);
                for (int i = 0; i < 16; i++) {
                    DUE.be("plane 0", x.sample(-1, 0, i % 4, i / 4), clip(128 + plane0[i / 4][i % 4]));
                }
                for (int i = 0; i < 4; i++) {
                    DUE.be("plane 1", x.sample(-1, 1, i % 2, i / 2), clip(128 + plane1[i / 2][i % 2]));
                }
            }
        }
    }

    private static void clippedSamples() {
        DUE.says("r is added to the prediction, CLIPPED");
        for (int number : new int[] {-100, -22, -21, 20, 21, 22, 100}) {
            turned(square(1, 0, 0), 1, 767, 1275, number);
        }
        FrameWriter frame = square(1, 0, 0);
        Numbers.write(frame, 1, 0, false, 0, 0, 100);
        emptyChroma(frame, 1);
        DUE.be("lightest", decoded(frame).sample(0, 0, 0, 0), 255);
        frame = square(1, 0, 0);
        Numbers.write(frame, 1, 0, false, 0, 0, -100);
        emptyChroma(frame, 1);
        DUE.be("darkest", decoded(frame).sample(0, 0, 0, 0), 0);
    }
}
