import java.util.Arrays;
import java.util.Random;

/** FILTER: which edges, which level, which lines and how much; and the lines that count. */
public final class FilterTest {
    private static final Due DUE = new Due();

    public static void main(String[] args) {
        exactPictures();
        levelZero();
        levelZeroWithSegments();
        losslessToo();
        firstColumnAndRow();
        multiplesOfTheTransform();
        firstEdgeOfBareBlocks();
        levelOfTheBlockBehind();
        levelOfSegments();
        featuresSideBySide();
        levelWithExtras();
        scaleOfExtras();
        levelBecomesZero();
        sharpness();
        differencesAboveI();
        sumsAboveB();
        evenSamples();
        wideSamples();
        highVariance();
        heldInEightBits();
        meansAtTheEnds();
        linesThatChange();
        drawnLines();
        planesAndDirections();
        unitsInsideOnly();
        chromaSizes();
        DUE.close("FilterTest");
    }

    private static int[][] filled(int wide, int high, int value) {
        int[][] out = new int[high][wide];
        for (int[] row : out) {
            Arrays.fill(row, value);
        }
        return out;
    }

    private static VideoDecoder painted(int[][] plane0) {
        int[][] chroma = filled((plane0[0].length + 1) / 2, (plane0.length + 1) / 2, 128);
        VideoDecoder x = new VideoDecoder();
        Calls.decode(x, Painter.exact(plane0, chroma, chroma));
        return x;
    }

    private static int[][] turned(int[][] rows) {
        int[][] out = new int[rows[0].length][rows.length];
        for (int y = 0; y < rows.length; y++) {
            for (int x = 0; x < rows[0].length; x++) {
                out[x][y] = rows[y][x];
            }
        }
        return out;
    }

    /** A frame that copies the picture in slot 0 with blocks that have SKIP and OTHER. */
    private static FrameWriter copy(int size, int level, int sharp) {
        FrameWriter frame = FrameWriter.inter();
        frame.refreshed = 0;
        frame.transformMode = size;
        frame.level = level;
        frame.sharp = sharp;
        return frame;
    }

    private static final String BARE = "1 1 0 0 ";

    /** Lines of 16 samples, 16 of them, with an edge in their middle between two blocks of 16 x 16. */
    private static void lines(String name, int[][] lines, int size, int level, int sharp) {
        for (int flat = 0; flat < 2; flat++) {
            int[][] rows = new int[16][32];
            for (int y = 0; y < 16; y++) {
                int[] line = lines[y % lines.length];
                for (int x = 0; x < 32; x++) {
                    rows[y][x] = line[Math.max(0, Math.min(15, x - 8))];
                }
            }
            int due = 0;
            VideoDecoder x = painted(flat == 1 ? turned(rows) : rows);
            Calls.decode(x, copy(size, level, sharp).bits("1 0" + BARE + "0" + BARE));
            for (int y = 0; y < 16; y++) {
                int[] line = Arrays.copyOfRange(rows[y], 8, 24);
                int[] smoothed = Smoother.line(line, 4 << size, level, sharp);
                due += Arrays.equals(line, smoothed) ? 0 : 1;
                for (int i = 0; i < 16; i++) {
                    int got = flat == 1 ? x.sample(-1, 0, y, 8 + i) : x.sample(-1, 0, 8 + i, y);
                    DUE.be(name + " " + Arrays.toString(line) + " at " + i, got, smoothed[i]);
                }
            }
            DUE.be(name + " count 6", x.count(6), due);
        }
    }

    private static void exactPictures() {
        DUE.says("(the test's own pictures are what they are meant to be)");
        Random random = new Random(1);
        for (int[] size : new int[][] {{32, 16}, {16, 32}, {40, 64}, {9, 33}}) {
            int[][] rows = new int[size[1]][size[0]];
            for (int[] row : rows) {
                for (int i = 0; i < row.length; i++) {
                    row[i] = random.nextInt(256);
                }
            }
            VideoDecoder x = painted(rows);
            for (int y = 0; y < size[1]; y++) {
                for (int h = 0; h < size[0]; h++) {
                    DUE.be("sample", x.sample(0, 0, h, y), rows[y][h]);
                }
            }
        }
    }

    private static int sumOf(int l, int sharp) {
        int i = l >> (sharp > 4 ? 2 : sharp > 0 ? 1 : 0);
        i = Math.max(1, sharp > 0 ? Math.min(i, 9 - sharp) : i);
        return 2 * (l + 2) + i;
    }

    /** A line whose 2 * |p0 - q0| + |p1 - q1| / 2 is the sum, and whose samples differ by 1 at most besides. */
    private static int[] line(int sum) {
        for (int gap = 0; gap < 120; gap++) {
            for (int more = -2; more <= 2; more++) {
                if (2 * gap + Math.abs(gap + more) / 2 == sum && gap + more >= 0) {
                    int[] out = new int[16];
                    int p0 = 128 - gap / 2;
                    int q0 = p0 + gap;
                    Arrays.fill(out, 0, 7, p0 - more / 2 - more % 2);
                    out[7] = p0;
                    out[8] = q0;
                    Arrays.fill(out, 9, 16, q0 + more / 2);
                    return out;
                }
            }
        }
        throw new IllegalArgumentException("no line of " + sum);
    }

    /** A picture of 32 x 16 on which just the even lines are filtered if the level is l. */
    private static int[][] measure(int l, int sharp) {
        int[][] rows = new int[16][32];
        for (int y = 0; y < 16; y++) {
            int[] line = line(sumOf(l, sharp) + y % 2);
            for (int x = 0; x < 32; x++) {
                rows[y][x] = line[Math.max(0, Math.min(15, x - 8))];
            }
        }
        return rows;
    }

    /** Whether the frame filters the second of two blocks of 16 x 16 with level l. */
    private static void measured(String name, FrameWriter frame, int l, int sharp) {
        VideoDecoder x = painted(measure(l, sharp));
        DUE.be(name + " decode", Calls.decode(x, frame), 1);
        DUE.be(name + " lines at level " + l, x.count(6), l == 0 ? 0 : 8);
    }

    private static void levelZero() {
        DUE.says("FILTER, once all blocks are there, if LEVEL is not 0; 0 with LEVEL 0");
        for (int level : new int[] {0, 1, 2, 62, 63}) {
            measured("LEVEL " + level, copy(0, level, 0).bits("1 0" + BARE + "0" + BARE), level, 0);
        }
    }

    private static FrameWriter segmented(FrameWriter frame, boolean absolute, int level) {
        frame.inUse = true;
        frame.featuresTold = true;
        frame.absolute = absolute;
        frame.features[0][1] = level;
        return frame;
    }

    private static void levelZeroWithSegments() {
        DUE.says("if LEVEL is not 0 (whatever level a segment has)");
        VideoDecoder x = painted(measure(40, 0));
        Calls.decode(x, segmented(copy(0, 0, 0), true, 63).bits("1 0" + BARE + "0" + BARE));
        DUE.be("count 6", x.count(6), 0);
        DUE.be("sample", x.sample(-1, 0, 15, 0), x.sample(0, 0, 15, 0));
    }

    private static void losslessToo() {
        DUE.says("(LOSSLESS or not)");
        for (int l : new int[] {5, 40}) {
            own("LOSSLESS", l, l, null);
            FrameWriter copied = copy(0, l, 0).bits("1 0" + BARE + "0" + BARE);
            copied.base = 0;
            measured("copied", copied, l, 0);
        }
    }

    /** A LOSSLESS picture with an edge in each row that is filtered at level l, and not below it. */
    private static void own(String name, int l, int level, Integer extra) {
        int[][] chroma = filled(16, 8, 128);
        for (int more = 0; more < 2; more++) {
            int[][] rows = new int[16][32];
            for (int[] row : rows) {
                for (int x = 0; x < 32; x++) {
                    row[x] = line(sumOf(l, 0) + more)[Math.max(0, Math.min(15, x - 8))];
                }
            }
            FrameWriter frame = Painter.exact(rows, chroma, chroma);
            frame.level = level;
            if (extra != null) {
                extra(frame, extra, 9, 9, 9, 9, 9);
            }
            VideoDecoder x = new VideoDecoder();
            DUE.be(name + " decode", Calls.decode(x, frame), 1);
            DUE.be(name + " lines at level " + l, x.count(6), more == 0 ? 16 : 0);
        }
    }

    private static void firstColumnAndRow() {
        DUE.says("its column (row), not 0");
        Random random = new Random(3);
        int[][] rows = filled(16, 16, 128);
        for (int[] row : rows) {
            for (int i = 0; i < 16; i++) {
                row[i] += random.nextInt(3);
            }
        }
        VideoDecoder x = painted(rows);
        Calls.decode(x, copy(2, 63, 0).bits("0" + BARE));
        DUE.be("one block has no edge", x.count(6), 0);
        for (int i = 0; i < 256; i++) {
            DUE.be("sample", x.sample(-1, 0, i % 16, i / 16), rows[i / 16][i % 16]);
        }
    }

    /** OTHER without SKIP and without numbers: so many squares that have none. */
    private static String empty(int squares) {
        return "0 1 0 0 " + "0".repeat(squares);
    }

    private static int[][] steps(int wide, int high, int every, int by) {
        int[][] rows = new int[high][wide];
        for (int y = 0; y < high; y++) {
            for (int x = 0; x < wide; x++) {
                rows[y][x] = 120 + by * (x / every % 2);
            }
        }
        return rows;
    }

    private static void multiplesOfTheTransform() {
        DUE.says("if its column (row) is a multiple of its TRANSFORM's size");
        for (int size = 0; size < 4; size++) {
            int side = 4 << size;
            for (int flat = 0; flat < 2; flat++) {
                int[][] rows = steps(32, 32, 4, 6);
                VideoDecoder x = painted(flat == 1 ? turned(rows) : rows);
                int squares = 1024 / side / side + 2 * Math.max(1, 256 / side / side);
                Calls.decode(x, copy(size, 30, 0).bits("0" + empty(squares)));
                // Steps at each fourth sample: the samples at an edge change, those at other steps do not.
                for (int i = 4; i < 32; i += 4) {
                    int got = flat == 1 ? x.sample(-1, 0, 9, i) : x.sample(-1, 0, i, 9);
                    DUE.be("size " + size + " at " + i, got != rows[9][i] ? 1 : 0, i % side == 0 ? 1 : 0);
                }
                DUE.be("count 6", x.count(6), (32 / side - 1) * 32);
            }
        }
    }

    private static void firstEdgeOfBareBlocks() {
        DUE.says("and: it is the block's first one, or the block is not (SKIP and OTHER)");
        int[][] rows = steps(32, 16, 4, 6);
        for (int bare = 0; bare < 2; bare++) {
            VideoDecoder x = painted(rows);
            String right = bare == 1 ? BARE : empty(16 + 8);
            Calls.decode(x, copy(0, 30, 0).bits("1 0" + BARE + "0" + right));
            for (int i = 4; i < 32; i += 4) {
                boolean filtered = i == 16 || i > 16 && bare == 0;
                DUE.be("at " + i, x.sample(-1, 0, i, 3) != rows[3][i] ? 1 : 0, filtered ? 1 : 0);
            }
        }
        // With SKIP, but not OTHER, all edges of its transforms count: by mode H it has the step of the left one.
        VideoDecoder x = painted(turned(steps(8, 16, 4, 6)));
        Calls.decode(x, copy(0, 30, 0).bits("1" + BARE + "1 0 110 0"));
        DUE.be("lines of SKIP alone", x.count(6), 8);
        DUE.be("the step of the left one", x.sample(-1, 0, 7, 4) - x.sample(-1, 0, 7, 3), 6);
        DUE.be("the step of the right one", x.sample(-1, 0, 12, 4) - x.sample(-1, 0, 12, 3) < 6 ? 1 : 0, 1);
        // The same by DC: the squares are 120, 120 above 123, 122, and the flat edge between them is filtered.
        x = painted(turned(steps(8, 16, 4, 6)));
        Calls.decode(x, copy(0, 0, 0).bits("1" + BARE + "1 0 0 0"));
        DUE.be("below", x.sample(-1, 0, 14, 4), 122);
        Calls.decode(x, copy(0, 30, 0).bits("1" + BARE + "1 0 0 0"));
        DUE.be("below, filtered", x.sample(-1, 0, 14, 4), 121);
    }

    private static void levelOfTheBlockBehind() {
        DUE.says("l is that of the block behind the edge");
        for (int right = 0; right < 2; right++) {
            FrameWriter frame = copy(0, 20, 0);
            frame.inUse = true;
            frame.tree = new int[] {128, 128, 128, 128, 128, 128, 128};
            frame.featuresTold = true;
            frame.features[1][1] = 10;
            frame.bits("1 0 00" + (1 - right) + BARE + "0 00" + right + BARE);
            measured("segment " + right, frame, right == 1 ? 30 : 20, 0);
        }
    }

    private static void levelOfSegments() {
        DUE.says("the segment has one: ABSOLUTE: it, else LEVEL plus it, within 0 .. 63");
        for (int level : new int[] {1, 20, 63}) {
            for (int told : new int[] {-63, -20, -19, -1, 0, 1, 42, 43, 44, 63}) {
                FrameWriter frame = segmented(copy(0, level, 0), false, told);
                int l = Math.max(0, Math.min(63, level + told));
                measured("LEVEL " + level + " and " + told, frame.bits("1 0" + BARE + "0" + BARE), l, 0);
                frame = segmented(copy(0, level, 0), true, told);
                measured("ABSOLUTE " + told, frame.bits("1 0" + BARE + "0" + BARE), Math.max(0, told), 0);
            }
        }
    }

    private static void featuresSideBySide() {
        DUE.says("for each of eight segments: quantiser; filter level; block's reference; skip: each for itself");
        for (int segment = 0; segment < 8; segment++) {
            FrameWriter frame = copy(0, 9, 0);
            frame.inUse = true;
            frame.tree = new int[] {128, 128, 128, 128, 128, 128, 128};
            frame.featuresTold = true;
            frame.absolute = true;
            for (int i = 0; i < 8; i++) {
                frame.features[i] = i == segment ? new Integer[] {100, 30, 1, null} : new Integer[] {5, 60, 3, 1};
            }
            String number = "0".repeat(3 - Integer.toBinaryString(segment).length()) + Integer.toBinaryString(segment);
            // No bit for OTHER and REFERENCE; a number of 9 in plane 1 tells the quantiser: 4 + 100 + 78.
            frame.bits("1 0" + number + "0 0" + "0".repeat(16) + "1 1 1 1110 000 0 0" + "000" + "0000");
            VideoDecoder x = painted(measure(30, 0));
            DUE.be("decode", Calls.decode(x, frame.bits("0" + number + "1 0")), 1);
            DUE.be("REFERENCE", x.block(1, 1, 9), 0);
            DUE.be("SKIP of the left one", x.block(1, 1, 5), 0);
            DUE.be("segment of the right one", x.block(2, 0, 4), segment);
            DUE.be("quantiser", x.sample(-1, 1, 0, 0), 128 + 13);
            for (int y = 0; y < 16; y++) {
                boolean changed = x.sample(-1, 0, 16, y) != x.sample(0, 0, 16, y);
                DUE.be("level, line " + y, changed ? 1 : 0, 1 - y % 2);
            }
        }
    }

    private static FrameWriter extra(FrameWriter frame, int... extras) {
        frame.extrasCount = true;
        frame.extras = new Integer[6];
        for (int i = 0; i < 6; i++) {
            frame.extras[i] = extras[i];
        }
        return frame;
    }

    private static void levelWithExtras() {
        DUE.says("plus s * (extra of its first reference), and if OTHER s * (extra of ZERO or of other KINDS)");
        String[] references = {"0", "10", "11"};
        for (int reference = 0; reference < 3; reference++) {
            for (int kind = 0; kind < 3; kind++) {
                String block = "1 1 " + references[reference] + (kind == 0 ? " 0 " : kind == 1 ? " 10 " : " 110 ");
                FrameWriter frame = extra(copy(0, 10, 0), 19, 2, 4, 8, 1, 3);
                int l = 10 + (2 << reference) + (kind == 0 ? 1 : 3);
                measured("REFERENCE " + reference + " KIND " + kind, frame.bits("1 0" + BARE + "0" + block), l, 0);
            }
        }
        // A pair goes by its first reference.
        FrameWriter frame = extra(copy(0, 10, 0), 19, 2, 4, 8, 1, 3);
        frame.sides[2] = 1;
        frame.doubling = 1;
        measured("pair", frame.bits("1 0 1 1 1 0 0 1 1 1 0"), 10 + 4 + 1, 0);
        for (int told : new int[] {-4, 0, 7}) {
            own("the picture itself", 10 + told, 10, told);
        }
    }

    private static void scaleOfExtras() {
        DUE.says("s = 1 for l below 32, else 2; within 0 .. 63");
        for (int level : new int[] {1, 30, 31, 32, 33, 63}) {
            for (int told : new int[] {-63, -17, -16, -1, 1, 15, 16, 32, 63}) {
                FrameWriter frame = extra(copy(0, level, 0), 0, told, 0, 0, 0, 0);
                int l = Math.max(0, Math.min(63, level + (level < 32 ? told : 2 * told)));
                measured("LEVEL " + level + " extra " + told, frame.bits("1 0" + BARE + "0" + BARE), l, 0);
            }
        }
        // By the level with the segment, and both extras before it is held.
        FrameWriter frame = segmented(extra(copy(0, 31, 0), 0, 5, 0, 0, -3, 0), false, 1);
        measured("32 by segment", frame.bits("1 0" + BARE + "0" + BARE), 32 + 10 - 6, 0);
        frame = segmented(extra(copy(0, 32, 0), 0, 5, 0, 0, -3, 0), false, -1);
        measured("31 by segment", frame.bits("1 0" + BARE + "0" + BARE), 31 + 5 - 3, 0);
        frame = extra(copy(0, 60, 0), 0, 20, 0, 0, -15, 0);
        measured("held once", frame.bits("1 0" + BARE + "0" + BARE), 63, 0);
        frame = extra(copy(0, 60, 0), 0, 20, 0, 0, -30, 0);
        measured("not held between", frame.bits("1 0" + BARE + "0" + BARE), 60 + 40 - 60, 0);
    }

    private static void levelBecomesZero() {
        DUE.says("if EXTRAS count and l is not 0; l 0: none");
        FrameWriter frame = segmented(extra(copy(0, 20, 0), 0, 30, 0, 0, 30, 0), true, 0);
        VideoDecoder x = painted(measure(60, 0));
        Calls.decode(x, frame.bits("1 0" + BARE + "0" + BARE));
        DUE.be("level 0 by segment", x.count(6), 0);
        // Held at 0 before the extras: nothing is left to add to.
        frame = segmented(extra(copy(0, 20, 0), 0, 30, 0, 0, 30, 0), true, -1);
        x = painted(measure(60, 0));
        Calls.decode(x, frame.bits("1 0" + BARE + "0" + BARE));
        DUE.be("less than 0 by segment", x.count(6), 0);
        frame = segmented(extra(copy(0, 20, 0), 0, 30, 0, 0, 30, 0), false, -21);
        x = painted(measure(60, 0));
        Calls.decode(x, frame.bits("1 0" + BARE + "0" + BARE));
        DUE.be("less than 0 by sum", x.count(6), 0);
        frame = extra(copy(0, 20, 0), 0, -20, 0, 0, 0, 0);
        x = painted(measure(60, 0));
        Calls.decode(x, frame.bits("1 0" + BARE + "0" + BARE));
        DUE.be("level 0 by extras", x.count(6), 0);
    }

    private static void sharpness() {
        DUE.says("i: l shifted right by (SHARP above 4: 2, above 0: 1, else 0), if SHARP is above 0 at most 9 - SHARP;"
                + " at least 1");
        for (int sharp = 0; sharp < 8; sharp++) {
            for (int l : new int[] {1, 2, 3, 4, 7, 8, 12, 15, 16, 17, 24, 32, 63}) {
                measured("SHARP " + sharp, copy(0, l, sharp).bits("1 0" + BARE + "0" + BARE), l, sharp);
                int i = sumOf(l, sharp) - 2 * (l + 2);
                differences("SHARP " + sharp, l, sharp, i);
            }
        }
    }

    /** Lines where one of the six differences is i, or one more. */
    private static void differences(String name, int l, int sharp, int i) {
        int[][] lines = new int[12][16];
        for (int n = 0; n < 12; n++) {
            Arrays.fill(lines[n], 100);
            int place = n % 6;
            // Beyond the place where they differ all are the same again.
            for (int k = 0; k < 16; k++) {
                boolean beyond = place < 3 ? k <= 6 - place : k >= 9 + place - 3;
                lines[n][k] += beyond ? i + n / 6 : k < 8 ? 0 : 2;
            }
        }
        lines(name, lines, 0, l, sharp);
    }

    private static void differencesAboveI() {
        DUE.says("Nothing if one of the differences of p(k) and p(k + 1), of q(k) and q(k + 1), k = 0 .. 2, is above i");
        for (int size = 0; size < 3; size++) {
            int[][] lines = new int[12][16];
            for (int n = 0; n < 12; n++) {
                int place = n % 6;
                for (int k = 0; k < 16; k++) {
                    boolean beyond = place < 3 ? k <= 6 - place : k >= 9 + place - 3;
                    lines[n][k] = 100 + (k < 8 ? 0 : 5) + (beyond ? (n < 6 ? 9 : 10) * (place < 3 ? -1 : 1) : 0);
                }
            }
            lines("differences", lines, size, 9, 0);
        }
        // The fifth sample may be anything.
        int[] far = {0, 255, 0, 255, 100, 100, 100, 100, 106, 106, 106, 106, 255, 0, 255, 0};
        for (int size = 0; size < 3; size++) {
            lines("far samples", new int[][] {far}, size, 9, 0);
        }
    }

    private static void sumsAboveB() {
        DUE.says("or 2 * |p0 - q0| + |p1 - q1| / 2 above b; b = 2 * (l + 2) + i");
        for (int l = 1; l < 64; l++) {
            int[][] lines = {line(sumOf(l, 0)), line(sumOf(l, 0) + 1), line(sumOf(l, 0) - 1)};
            for (int size = 0; size < 3; size++) {
                lines("level " + l, lines, size, l, 0);
            }
        }
    }

    private static void evenSamples() {
        DUE.says("FLAT: p(1 .. 3) differ from p0, q(1 .. 3) from q0, by at most 1");
        for (int size = 0; size < 3; size++) {
            for (int by : new int[] {-2, -1, 1, 2}) {
                int[][] lines = new int[6][16];
                for (int n = 0; n < 6; n++) {
                    for (int k = 0; k < 16; k++) {
                        lines[n][k] = k < 8 ? 100 : 108;
                    }
                    lines[n][n < 3 ? 6 - n : 6 + n] += by;
                }
                lines("even but one", lines, size, 20, 0);
            }
            // Each differs by 1 from the one before, and thus by more from the first.
            int[] slope = {100, 100, 100, 100, 100, 101, 102, 103, 108, 109, 110, 111, 111, 111, 111, 111};
            lines("slope", new int[][] {slope}, size, 20, 0);
        }
    }

    private static void wideSamples() {
        DUE.says("WIDE: p(4 .. 7), q(4 .. 7) likewise. The TRANSFORM's size is 16 or more, FLAT and WIDE: n = 7;"
                + " 8 or more and FLAT: n = 3");
        for (int size = 0; size < 3; size++) {
            for (int by : new int[] {-2, -1, 1, 2}) {
                int[][] lines = new int[8][16];
                for (int n = 0; n < 8; n++) {
                    for (int k = 0; k < 16; k++) {
                        lines[n][k] = k < 8 ? 100 : 108;
                    }
                    lines[n][n < 4 ? n : 8 + n] += by;
                }
                lines("wide but one", lines, size, 20, 0);
            }
        }
        // WIDE without FLAT is nothing.
        int[] line = {100, 100, 100, 100, 100, 102, 100, 100, 108, 108, 108, 108, 108, 108, 108, 108};
        lines("not FLAT", new int[][] {line}, 2, 20, 0);
        // Of size 32: two blocks of 32 x 32.
        int[][] rows = steps(64, 32, 32, 8);
        VideoDecoder x = painted(rows);
        Calls.decode(x, copy(3, 20, 0).bits("1 0" + BARE + "0" + BARE));
        int[] due = Smoother.line(Arrays.copyOfRange(rows[0], 24, 40), 32, 20, 0);
        for (int i = 0; i < 16; i++) {
            DUE.be("size 32 at " + i, x.sample(-1, 0, 24 + i, 31), due[i]);
        }
        DUE.be("first that changes", due[1] != 120 ? 1 : 0, 1);
    }

    private static void highVariance() {
        DUE.says("HEV: |p1 - p0| or |q1 - q0| above t; t = l shifted right by 4");
        for (int l : new int[] {15, 16, 31, 32, 47, 48, 63}) {
            int t = l >> 4;
            int[][] lines = new int[12][16];
            for (int n = 0; n < 12; n++) {
                int by = n % 3 == 0 ? t : n % 3 == 1 ? t + 1 : -t - 1;
                for (int k = 0; k < 16; k++) {
                    boolean beyond = n < 6 ? k < 7 : k > 8;
                    lines[n][k] = (k < 8 ? 100 : 110) + (beyond ? by : 0) + (n % 6 > 2 && k >= 8 ? -20 : 0);
                }
            }
            lines("level " + l, lines, 0, l, 0);
        }
    }

    private static void heldInEightBits() {
        DUE.says("with s8(v) = v within -128 .. 127, samples less 128");
        int[][] lines = {
            {0, 0, 0, 0, 0, 0, 0, 0, 60, 60, 60, 60, 60, 60, 60, 60},
            {255, 255, 255, 255, 255, 255, 255, 255, 190, 190, 190, 190, 190, 190, 190, 190},
            {60, 60, 60, 60, 60, 60, 60, 0, 40, 0, 0, 0, 0, 0, 0, 0},
            {190, 190, 190, 190, 190, 190, 255, 255, 200, 255, 255, 255, 255, 255, 255, 255},
            {250, 250, 250, 250, 250, 250, 250, 255, 255, 210, 210, 210, 210, 210, 210, 210},
            {0, 0, 0, 0, 0, 0, 5, 0, 1, 50, 50, 50, 50, 50, 50, 50},
            {60, 60, 60, 60, 60, 60, 60, 10, 0, 0, 0, 0, 0, 0, 0, 0},
            {255, 255, 255, 255, 255, 255, 254, 254, 255, 195, 195, 195, 195, 195, 195, 195},
            {0, 0, 0, 0, 0, 0, 0, 1, 0, 60, 60, 60, 60, 60, 60, 60},
            {128, 128, 128, 128, 128, 128, 128, 170, 128, 170, 170, 170, 170, 170, 170, 170}};
        for (int l : new int[] {40, 50, 63}) {
            for (int size = 0; size < 3; size++) {
                lines("held", lines, size, l, 0);
            }
        }
        DUE.says("f1 = s8(f + 4) shifted right by 3, f2 = s8(f + 3) by 3 (with sign); not HEV: f = R(f1, 1)");
        int[][] small = new int[16][16];
        for (int n = 0; n < 16; n++) {
            for (int k = 0; k < 16; k++) {
                small[n][k] = k < 8 ? 100 : 100 + n - 8;
            }
        }
        lines("small steps", small, 0, 20, 0);
        lines("small steps", small, 0, 63, 0);
        int[] steep = line(193);
        lines("largest step", new int[][] {steep}, 0, 63, 0);
    }

    private static void meansAtTheEnds() {
        DUE.says("the sum of v(k - n .. k + n), places beyond the line's ends counting as its end, plus v(k)."
                + " (All by the old samples.)");
        Random random = new Random(5);
        for (int turn = 0; turn < 20; turn++) {
            int[][] lines = new int[16][16];
            for (int[] line : lines) {
                int gap = random.nextInt(20) - 10;
                for (int k = 0; k < 16; k++) {
                    line[k] = (k < 8 ? 100 : 100 + gap) + (k == 7 || k == 8 ? 0 : random.nextInt(3) - 1);
                }
            }
            for (int size = 1; size < 3; size++) {
                lines("means", lines, size, 30, 0);
            }
        }
    }

    private static void linesThatChange() {
        DUE.says("lines that the FILTER changed (at least one sample got another value)");
        // A step of 1: f is 3, f1 = 7 >> 3 and f2 = 6 >> 3 are 0. One of 2 changes.
        int[][] rows = new int[16][32];
        for (int y = 0; y < 16; y++) {
            for (int x = 0; x < 32; x++) {
                rows[y][x] = 100 + (x < 16 ? 0 : y % 4);
            }
        }
        VideoDecoder x = painted(rows);
        Calls.decode(x, copy(0, 20, 0).bits("1 0" + BARE + "0" + BARE));
        DUE.be("steps of 0 and 1 do not count", x.count(6), 8);
        x = painted(rows);
        Calls.decode(x, copy(1, 20, 0).bits("1 0" + BARE + "0" + BARE));
        int due = 0;
        for (int y = 0; y < 16; y++) {
            int[] line = Arrays.copyOfRange(rows[y], 8, 24);
            due += Arrays.equals(line, Smoother.line(line, 8, 20, 0)) ? 0 : 1;
        }
        DUE.be("size 8", x.count(6), due);
    }

    private static void drawnLines() {
        DUE.says("For each of its four lines across: .. (all of it, on drawn lines)");
        Random random = new Random(9);
        for (int turn = 0; turn < 60; turn++) {
            int l = new int[] {3, 10, 17, 33, 50, 63}[turn % 6];
            int sharp = turn % 10 > 7 ? 1 + turn % 7 : 0;
            int i = sumOf(l, sharp) - 2 * (l + 2);
            int[][] lines = new int[16][16];
            for (int[] line : lines) {
                // Steps up to the limit on both sides, and a gap whose sum is about as large as b.
                line[7] = 128 + random.nextInt(41) - 20;
                int gap = (sumOf(l, sharp) + random.nextInt(9) - 4) * 2 / 5;
                line[8] = line[7] + (random.nextBoolean() ? gap : -gap);
                int reach = 1 + random.nextInt(i);
                for (int k = 1; k < 8; k++) {
                    line[7 - k] = clip(line[8 - k] + random.nextInt(2 * reach + 1) - reach);
                    line[8 + k] = clip(line[7 + k] + random.nextInt(2 * reach + 1) - reach);
                }
                line[8] = clip(line[8]);
            }
            lines("drawn", lines, turn % 3, l, sharp);
        }
    }

    private static int clip(int v) {
        return Math.max(0, Math.min(255, v));
    }

    /** A copied picture of small differences, blocks by bits, against the whole filter. */
    private static void whole(String name, int wide, int high, int size, int level, String bits, long seed) {
        Random random = new Random(seed);
        int[][][] planes = new int[3][][];
        for (int plane = 0; plane < 3; plane++) {
            int half = plane == 0 ? 1 : 2;
            planes[plane] = new int[(high + half - 1) / half][(wide + half - 1) / half];
            for (int y = 0; y < planes[plane].length; y++) {
                for (int x = 0; x < planes[plane][0].length; x++) {
                    int patch = (x * half / 8 * 5 + y * half / 8 * 3) % 7 * 2;
                    planes[plane][y][x] = 110 + patch + random.nextInt(seed % 2 == 0 ? 2 : 4);
                }
            }
        }
        VideoDecoder x = new VideoDecoder();
        Calls.decode(x, Painter.exact(planes));
        DUE.be(name + " decode", Calls.decode(x, copy(size, level, 0).bits(bits)), 1);
        Smoother smoother = new Smoother(x, 0, (column, row) -> level);
        for (int plane = 0; plane < 3; plane++) {
            int field = plane == 0 ? 64 : 32;
            int[][] samples = new int[field][field];
            for (int y = 0; y < field; y++) {
                for (int h = 0; h < field; h++) {
                    int[] row = planes[plane][Math.min(y, planes[plane].length - 1)];
                    samples[y][h] = row[Math.min(h, row.length - 1)];
                }
            }
            smoother.run(plane, samples, (wide + 7) / 8, (high + 7) / 8);
            for (int y = 0; y < planes[plane].length; y++) {
                for (int h = 0; h < planes[plane][0].length; h++) {
                    DUE.be(name + " plane " + plane + " at " + h + ", " + y, x.sample(-1, plane, h, y), samples[y][h]);
                }
            }
        }
        DUE.be(name + " lines", x.count(6), smoother.lines());
    }

    private static void planesAndDirections() {
        DUE.says("planes in order; upright edges of the whole plane, then flat ones; squares of 4 samples row by row");
        for (int size = 0; size < 4; size++) {
            int side = 4 << size;
            for (long seed = 0; seed < 4; seed++) {
                int squares = 4096 / side / side + 2 * (1024 / side / side);
                whole("one block, size " + size, 64, 64, size, 30, "0" + empty(squares), seed);
                StringBuilder quarters = new StringBuilder("111");
                for (int i = 0; i < 4; i++) {
                    int chroma = Math.min(side, 16);
                    int each = 1024 / side / side + 2 * (256 / chroma / chroma);
                    quarters.append("0").append(i % 3 == 0 ? empty(each) : BARE);
                }
                whole("quarters, size " + size, 64, 64, size, 40, quarters.toString(), seed);
            }
        }
    }

    private static void unitsInsideOnly() {
        DUE.says("squares of 4 samples row by row, of UNITS INSIDE");
        for (int[] sides : new int[][] {{33, 33}, {40, 33}, {40, 64}, {64, 40}, {47, 57}}) {
            for (int size = 0; size < 4; size++) {
                int side = 4 << size;
                int wide = (sides[0] + 7) / 8 * 8;
                int high = (sides[1] + 7) / 8 * 8;
                int squares = (wide + side - 1) / side * ((high + side - 1) / side)
                        + 2 * ((wide / 2 + side - 1) / side * ((high / 2 + side - 1) / side));
                for (long seed = 0; seed < 2; seed++) {
                    whole(sides[0] + " x " + sides[1], sides[0], sides[1], size, 30, "0" + empty(squares), seed);
                }
            }
        }
    }

    private static void chromaSizes() {
        DUE.says("a multiple of its TRANSFORM's size (in this plane)");
        // Blocks of 8 x 8: transforms of 8 in plane 0, and of 4 in planes 1 and 2.
        StringBuilder eights = new StringBuilder("111");
        for (int i = 0; i < 4; i++) {
            eights.append("111");
            for (int j = 0; j < 4; j++) {
                eights.append(j % 2 == 0 ? empty(3) : BARE);
            }
        }
        StringBuilder halves = new StringBuilder("10");
        for (int i = 0; i < 2; i++) {
            halves.append(empty(2 + 2 * 2));
        }
        for (long seed = 0; seed < 4; seed++) {
            whole("8 x 8", 32, 32, 1, 30, eights.toString(), seed);
            whole("32 x 16", 32, 32, 2, 30, halves.toString(), seed);
        }
    }
}
