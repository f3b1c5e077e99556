/** Promise 10: divided blocks, segments, references, kinds and vectors, and prediction by them. */
public final class BlockTest {
    private static final Due DUE = new Due();

    public static void main(String[] args) {
        divisions();
        halvesAtTheEdge();
        wrongArguments();
        sizes();
        segments();
        guesses();
        vectors();
        nearest();
        samplesByVectors();
        doubles();
        DUE.close("BlockTest");
    }

    private static void due(VideoDecoder x, int column, int row, int from, int... facts) {
        for (int i = 0; i < facts.length; i++) {
            int what = from + i;
            DUE.be("block " + column + ", " + row + ", " + what, x.block(column, row, what), facts[i]);
        }
    }

    private static VideoDecoder key16(String bits) {
        VideoDecoder x = new VideoDecoder();
        Calls.decode(x, FrameWriter.key(16, 16).bits(bits));
        return x;
    }

    private static void divisions() {
        DUE.says("0 its first column, 1 its first row, 2 width, 3 height, in UNITS");
        VideoDecoder x = key16("0 100");
        due(x, 1, 1, 0, 0, 0, 2, 2, 0, 1, 0, 0, 0, -1, -1, -1, 0, 0, 0, 0, -1);
        DUE.be("one", x.count(3), 1);
        x = key16("10 1 110 0 1 0 10");
        due(x, 1, 0, 0, 0, 0, 2, 1, 0, 1, 0, 2, 0);
        due(x, 0, 1, 0, 0, 1, 2, 1, 0, 1, 0, 0, 1);
        DUE.be("flat halves", x.count(3), 2);
        x = key16("110 100 100");
        due(x, 0, 1, 0, 0, 0, 1, 2);
        due(x, 1, 1, 0, 1, 0, 1, 2);
        x = key16("111 100 100 100 100");
        due(x, 1, 0, 0, 1, 0, 1, 1);
        due(x, 0, 1, 0, 0, 1, 1, 1);
        DUE.be("quarters", x.count(3), 4);
    }

    private static void halvesAtTheEdge() {
        DUE.says("Middle row not: the upper half alone; Column not: the left half alone");
        VideoDecoder x = new VideoDecoder();
        Calls.decode(x, FrameWriter.key(24, 8).bits("0 100"));
        due(x, 2, 0, 0, 0, 0, 4, 2);
        x = new VideoDecoder();
        Calls.decode(x, FrameWriter.key(8, 24).bits("0 100"));
        due(x, 0, 2, 0, 0, 0, 2, 4);
        x = new VideoDecoder();
        Calls.decode(x, FrameWriter.key(24, 8).bits("1 0 100 100"));
        due(x, 1, 0, 0, 0, 0, 2, 1);
        due(x, 2, 0, 0, 2, 0, 1, 1);
    }

    private static void wrongArguments() {
        DUE.says("IndexOutOfBoundsException, first: that has no such UNIT; IllegalArgumentException: another what");
        VideoDecoder x = new VideoDecoder();
        Calls.decode(x, FrameWriter.key(24, 8).bits("0 100"));
        DUE.thrown("column 3", IndexOutOfBoundsException.class, () -> x.block(3, 0, 0));
        DUE.thrown("row 1", IndexOutOfBoundsException.class, () -> x.block(0, 1, 99));
        DUE.thrown("column -1", IndexOutOfBoundsException.class, () -> x.block(-1, 0, 0));
        DUE.thrown("row -1", IndexOutOfBoundsException.class, () -> x.block(0, -1, 0));
        DUE.thrown("what 17", IllegalArgumentException.class, () -> x.block(2, 0, 17));
        DUE.thrown("what -1", IllegalArgumentException.class, () -> x.block(2, 0, -1));
    }

    private static void sizes() {
        DUE.says("6 SIZE of its transform (0 .. 3 for 4 .. 32)");
        for (int mode = 0; mode < 4; mode++) {
            VideoDecoder x = new VideoDecoder();
            FrameWriter frame = FrameWriter.key(64, 64);
            frame.transformMode = mode;
            Calls.decode(x, frame.bits("0 100"));
            DUE.be("size by mode", x.block(3, 3, 6), mode);
        }
        String[] ladders = {"0", "10", "110", "111"};
        for (int size = 0; size < 4; size++) {
            VideoDecoder x = new VideoDecoder();
            FrameWriter frame = FrameWriter.key(64, 64);
            frame.transformMode = 4;
            // Neighbours that are not there count as the largest, so the second row of models is used.
            frame.models.put(63 + 6 + 3, 77);
            frame.data.bits("0 1").bit(ladders[size].charAt(0) - '0', 77).bits(ladders[size].substring(1));
            Calls.decode(x, frame.bits("0 110"));
            due(x, 0, 0, 6, size, 0, 2);
        }
    }

    private static FrameWriter segmented(FrameWriter frame) {
        frame.inUse = true;
        frame.tree = new int[] {10, 20, 30, 40, 50, 60, 70};
        frame.featuresTold = true;
        frame.features[5][3] = 1;
        frame.features[2][2] = 3;
        return frame;
    }

    private static void segments() {
        DUE.says("4 segment; 5 SKIP");
        for (int segment = 0; segment < 8; segment++) {
            VideoDecoder x = new VideoDecoder();
            FrameWriter frame = segmented(FrameWriter.key(8, 8));
            int high = segment >> 2;
            int middle = segment >> 1 & 1;
            int low = segment & 1;
            frame.data.bit(high, 10).bit(middle, high == 0 ? 20 : 30).bit(low, 40 + 10 * (2 * high + middle));
            Calls.decode(x, frame.bits(segment == 5 ? "00" : "100"));
            due(x, 0, 0, 4, segment, 1, 0, 0, 0);
            FrameWriter next = FrameWriter.inter();
            next.inUse = true;
            next.kernel = 1;
            next.bits(segment == 5 ? "1 10" : segment == 2 ? "1 111 0" : "1 1 10 10");
            Calls.decode(x, next);
            // The map and the features stay: 5 skips and is ZERO, 2 goes by REFERENCE 2.
            int reference = segment == 2 ? 2 : 1;
            due(x, 0, 0, 4, segment, 1, 0, -1, -1, reference, -1, segment == 5 ? 0 : segment == 2 ? 3 : 1);
            DUE.be("KERNEL", x.block(0, 0, 16), 1);
        }
    }

    private static void guesses() {
        DUE.says("B(GUESS n): 1: the GUESS value (guessed right); 0: TREE");
        VideoDecoder x = new VideoDecoder();
        FrameWriter frame = segmented(FrameWriter.key(16, 16));
        frame.data.bits("111").bit(1, 10).bit(1, 30).bit(0, 70).bits("100");
        for (int i = 0; i < 3; i++) {
            frame.data.bit(1, 10).bit(1, 30).bit(1, 70).bits("100");
        }
        Calls.decode(x, frame);
        due(x, 0, 0, 4, 6);
        due(x, 1, 1, 4, 7);
        FrameWriter next = segmented(FrameWriter.inter());
        next.guesses = new int[] {90, 100, 110};
        next.data.bits("110").bit(1, 90).bits("1 0 0 0").bit(0, 100);
        next.data.bit(0, 10).bit(1, 20).bit(1, 50).bits("1 0 0 0");
        Calls.decode(x, next);
        // The left half has 6 and 7 in the map: the least; the right half is told anew.
        due(x, 0, 1, 4, 6);
        due(x, 1, 1, 4, 3);
        FrameWriter last = FrameWriter.inter();
        last.inUse = true;
        Calls.decode(x, last.bits("0 1 0 0 0"));
        due(x, 1, 1, 4, 3);
        FrameWriter unused = FrameWriter.inter();
        Calls.decode(x, unused.bits("0 1 0 0 0"));
        due(x, 1, 1, 4, 0);
        FrameWriter kept = FrameWriter.inter();
        kept.inUse = true;
        Calls.decode(x, kept.bits("0 1 0 0 0"));
        due(x, 1, 1, 4, 3);
    }

    private static void vector(boolean fine, String difference, int vx, int vy) {
        VideoDecoder x = new VideoDecoder();
        Calls.decode(x, FrameWriter.key(8, 8).bits("100"));
        FrameWriter frame = FrameWriter.inter();
        frame.fine = fine;
        Calls.decode(x, frame.bits("1 1 10 111" + difference));
        due(x, 0, 0, 7, -1, -1, 1, -1, 3, vx, vy, 0, 0, 0);
    }

    private static void vectors() {
        DUE.says("12, 13 first vector x, y");
        vector(true, "0", 0, 0);
        vector(true, "10  0 0 1 01 0", 11, 0);
        vector(false, "10  0 0 1 01", 12, 0);
        vector(true, "10  1 0 0 00 0", -1, 0);
        vector(true, "110  1 1110 101 11 1", 0, -(64 + 40 + 6 + 2));
        vector(true, "110  0 1110 100 10 0", 0, 64 + 8 + 4 + 1);
        vector(false, "111  0 10 1 00  1 1111111 1111111 11", -2048, 16 + 8 + 2);
    }

    /** The second block finds the first one's vector, or another reference's turned round. */
    private static void nearest() {
        DUE.says("11 KIND (0 ZERO, 1 NEAREST, 2 NEAR, 3 NEW)");
        for (int turned = 0; turned < 2; turned++) {
            VideoDecoder x = new VideoDecoder();
            Calls.decode(x, FrameWriter.key(16, 8).bits("1 100 100"));
            FrameWriter frame = FrameWriter.inter();
            frame.sides[1] = turned;
            frame.fine = true;
            frame.bits("1  1 1 0 111 10 0 0 1 01 0  1 1 10 10");
            Calls.decode(x, frame);
            due(x, 0, 0, 9, 0, -1, 3, 11, 0);
            due(x, 1, 0, 9, 1, -1, 1, turned == 1 ? -11 : 11, 0);
            FrameWriter next = FrameWriter.inter();
            next.fine = true;
            Calls.decode(x, next.bits("1  1 1 0 10  1 1 10 110"));
            // Last motion: the first block's own reference first; the second one has no other vector.
            due(x, 0, 0, 9, 0, -1, 1, 11, 0);
            due(x, 1, 0, 9, 1, -1, 2, 11 * turned, 0);
            Calls.decode(x, FrameWriter.again(0));
            Calls.decode(x, FrameWriter.inter().bits("1  1 1 0 10  1 1 10 10"));
            due(x, 0, 0, 12, 0, 0);
        }
    }

    /** The reference has the slope of one number of 4 x 4 in its first square. */
    private static void samplesByVectors() {
        DUE.says("K, KERNEL 0, f = 0 .. 8; KERNEL 1: 128 - 8 * f at i 3, 8 * f at 4");
        int[] line = {129, 130, 131, 132, 136, 136, 136, 136};
        moved("0 11 1", 0, false, new int[] {130, 131, 132, 136, 136, 136, 136, 136});
        moved("0 01 1", 1, false, new int[] {130, 131, 132, 134, 136, 136, 136, 136});
        moved("0 01 1", 0, false, half(line));
        moved("1 11 1", 0, false, new int[] {131, 132, 136, 136, 136, 136, 136, 136});
        moved("0 11 1", 0, true, new int[] {129, 129, 130, 131, 132, 136, 136, 136});
    }

    private static int[] half(int[] line) {
        int[] taps = {-1, 6, -19, 78, 78, -19, 6, -1};
        int[] out = new int[8];
        for (int x = 0; x < 8; x++) {
            int sum = 64;
            for (int i = 0; i < 8; i++) {
                sum += taps[i] * line[Math.max(0, Math.min(7, x + i - 3))];
            }
            out[x] = sum >> 7;
        }
        return out;
    }

    private static void moved(String amount, int kernel, boolean negative, int[] row) {
        VideoDecoder x = new VideoDecoder();
        Calls.decode(x, FrameWriter.key(8, 8).bits("0 0 0  1100 0  0 0 0  0 0"));
        FrameWriter frame = FrameWriter.inter();
        frame.fine = true;
        frame.kernel = kernel;
        Calls.decode(x, frame.bits("1 1 0 111 10" + (negative ? "1" : "0") + "0" + amount));
        for (int i = 0; i < 8; i++) {
            DUE.be("moved by " + amount + " at " + i, x.sample(-1, 0, i, 0), row[i]);
        }
        DUE.be("chroma", x.sample(-1, 1, 3, 3), 128);
    }

    private static void doubles() {
        DUE.says("9 first REFERENCE; 10 second; DOUBLE: R(both, 1)");
        VideoDecoder x = new VideoDecoder();
        Calls.decode(x, FrameWriter.key(8, 8).bits("0 0 0  1100 0  0 0 0  0 0"));
        FrameWriter dark = FrameWriter.key(8, 8);
        dark.inter = true;
        dark.intraOnly = true;
        dark.refreshed = 2;
        dark.transformMode = 1;
        Calls.decode(x, dark.bits("1 10 10"));
        DUE.be("dark", x.sample(1, 0, 5, 5), 127);
        for (int doubling = 1; doubling <= 2; doubling++) {
            FrameWriter frame = FrameWriter.inter();
            frame.refreshed = 0;
            frame.references = new int[] {0, 0, 1};
            frame.sides[2] = 1;
            frame.doubling = doubling;
            Calls.decode(x, frame.bits(doubling == 1 ? "1 1 1 0" : "1 1 1 1 0"));
            due(x, 0, 0, 9, 1, 2, 0, 0, 0, 0, 0, 0);
            DUE.be("mean", x.sample(-1, 0, 5, 5), 136 + 127 + 1 >> 1);
            DUE.be("mean", x.sample(-1, 1, 2, 2), 128);
        }
        FrameWriter single = FrameWriter.inter();
        single.references = new int[] {0, 0, 1};
        single.sides[2] = 1;
        single.doubling = 2;
        Calls.decode(x, single.bits("1 1 0 11 0"));
        due(x, 0, 0, 9, 2, -1, 0);
        DUE.be("single", x.sample(-1, 0, 5, 5), 127);
    }
}
