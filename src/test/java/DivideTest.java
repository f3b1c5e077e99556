/** BLOCKS: how squares are divided, at the picture's edges too, and which neighbours are there. */
public final class DivideTest {
    private static final Due DUE = new Due();
    private static final int[] FIRST = {0, 20, 40};

    public static void main(String[] args) {
        wholeAndHalves();
        smallestIsEight();
        middleAtTheEdge();
        onlyTheRowIsIn();
        onlyTheColumnIsIn();
        neitherIsIn();
        roundedUpToEight();
        narrowerAbove();
        narrowerOnTheLeft();
        bothNeighbours();
        neighboursNotThere();
        squaresRowByRow();
        quartersRowByRow();
        dataOfAllUnits();
        unitsInside();
        mostBlocks();
        DUE.close("DivideTest");
    }

    private static void block(FrameWriter frame, int skips) {
        frame.m(60 + skips, "1").ladder(75, 0, 9).ladder(1011, 0, 9);
    }

    private static void due(VideoDecoder x, int column, int row, int... facts) {
        for (int what = 0; what < facts.length; what++) {
            DUE.be("block " + column + ", " + row + ", " + what, x.block(column, row, what), facts[what]);
        }
    }

    private static VideoDecoder decoded(FrameWriter frame, int blocks) {
        VideoDecoder x = new VideoDecoder();
        Calls.decodeLearning(DUE, x, frame);
        DUE.be("blocks", x.count(3), blocks);
        return x;
    }

    private static void wholeAndHalves() {
        DUE.says("M(k): 0 whole; M(k + 1): 0 two flat halves, upper first; M(k + 2): 0 two high halves, left first;"
                + " 1 four quarters");
        for (int size = 0; size < 3; size++) {
            int side = 64 >> size;
            int units = side / 8;
            int k = FIRST[size];
            FrameWriter frame = FrameWriter.key(side, side).m(k, "0");
            block(frame, 0);
            due(decoded(frame, 1), units - 1, units - 1, 0, 0, units, units);
            frame = FrameWriter.key(side, side).m(k, "10");
            block(frame, 0);
            frame.m(60 + 1, "0").ladder(75, 1, 9).ladder(1020, 0, 9);
            VideoDecoder x = new VideoDecoder();
            DUE.be("flat halves", Calls.decode(x, frame), 1);
            due(x, units - 1, 0, 0, 0, units, units / 2, 0, 1);
            due(x, 0, units - 1, 0, units / 2, units, units / 2, 0, 0);
            frame = FrameWriter.key(side, side).m(k, "110");
            block(frame, 0);
            frame.m(60 + 1, "0").ladder(75, 1, 9).ladder(1020, 0, 9);
            x = new VideoDecoder();
            DUE.be("high halves", Calls.decode(x, frame), 1);
            due(x, 0, units - 1, 0, 0, units / 2, units, 0, 1);
            due(x, units - 1, 0, units / 2, 0, units / 2, units, 0, 0);
        }
    }

    private static void smallestIsEight() {
        DUE.says("s 8: a block of 8 x 8");
        FrameWriter frame = FrameWriter.key(16, 16).m(40, "111");
        block(frame, 0);
        block(frame, 1);
        block(frame, 1);
        block(frame, 2);
        VideoDecoder x = decoded(frame, 4);
        due(x, 0, 0, 0, 0, 1, 1);
        due(x, 1, 0, 1, 0, 1, 1);
        due(x, 0, 1, 0, 1, 1, 1);
        due(x, 1, 1, 1, 1, 1, 1);
    }

    private static void middleAtTheEdge() {
        DUE.says("Is the middle row y + s / 2 and column x + s / 2 below H, W (rounded up): M(k)");
        for (int size = 0; size < 3; size++) {
            int half = 32 >> size;
            // One sample beyond the middle is a unit more, and enough.
            FrameWriter frame = FrameWriter.key(half + 1, half + 1).m(FIRST[size], "0");
            block(frame, 0);
            VideoDecoder x = decoded(frame, 1);
            due(x, half / 8, half / 8, 0, 0, half / 4, half / 4);
        }
    }

    private static void onlyTheColumnIsIn() {
        DUE.says("Middle row not: M(k + 3): 0 the upper half alone; 1 quarters");
        for (int size = 0; size < 3; size++) {
            int half = 32 >> size;
            int units = half / 8;
            for (int height : new int[] {half - 7, half}) {
                FrameWriter frame = FrameWriter.key(half + 1, height).m(FIRST[size] + 3, "0");
                block(frame, 0);
                due(decoded(frame, 1), units, 0, 0, 0, 2 * units, units);
            }
        }
        FrameWriter frame = FrameWriter.key(16, 8).m(43, "1");
        block(frame, 0);
        block(frame, 1);
        due(decoded(frame, 2), 1, 0, 1, 0, 1, 1);
    }

    private static void onlyTheRowIsIn() {
        DUE.says("Column not: M(k + 4): 0 the left half alone; 1 quarters");
        for (int size = 0; size < 3; size++) {
            int half = 32 >> size;
            int units = half / 8;
            for (int width : new int[] {half - 7, half}) {
                FrameWriter frame = FrameWriter.key(width, half + 1).m(FIRST[size] + 4, "0");
                block(frame, 0);
                due(decoded(frame, 1), 0, units, 0, 0, units, 2 * units);
            }
        }
        FrameWriter frame = FrameWriter.key(8, 16).m(44, "1");
        block(frame, 0);
        block(frame, 1);
        due(decoded(frame, 2), 0, 1, 0, 1, 1, 1);
    }

    private static void neitherIsIn() {
        DUE.says("Neither: quarters");
        FrameWriter frame = FrameWriter.key(8, 8);
        block(frame, 0);
        due(decoded(frame, 1), 0, 0, 0, 0, 1, 1);
        frame = FrameWriter.key(32, 32).m(20, "0");
        block(frame, 0);
        due(decoded(frame, 1), 3, 3, 0, 0, 4, 4);
        frame = FrameWriter.key(16, 16).m(40, "0");
        block(frame, 0);
        due(decoded(frame, 1), 1, 1, 0, 0, 2, 2);
    }

    private static void roundedUpToEight() {
        DUE.says("nothing if x or y is not below W, H (rounded up to multiples of 8)");
        for (int width : new int[] {17, 24}) {
            // 32: middle column 16 is in, row not; quarters; then 16 whole with no middle row, and 8 wide.
            FrameWriter frame = FrameWriter.key(width, 8).m(23, "1").m(43, "0");
            block(frame, 0);
            block(frame, 1);
            VideoDecoder x = decoded(frame, 2);
            due(x, 1, 0, 0, 0, 2, 1);
            due(x, 2, 0, 2, 0, 1, 1);
            DUE.thrown("column 3", IndexOutOfBoundsException.class, () -> x.block(3, 0, 0));
        }
        FrameWriter frame = FrameWriter.key(65, 1).m(3, "0");
        block(frame, 0);
        block(frame, 1);
        due(decoded(frame, 2), 8, 0, 8, 0, 1, 1);
        frame = FrameWriter.key(1, 65).m(4, "0");
        block(frame, 0);
        block(frame, 1);
        due(decoded(frame, 2), 0, 8, 0, 8, 1, 1);
    }

    private static void narrowerAbove() {
        DUE.says("n = 1 if the block of the UNIT above is less wide than s");
        above("0", 1, 0);
        above("10", 2, 0);
        above("110", 2, 1);
        // Within a square of 64: quarters of 32, the upper left one divided into high or flat halves.
        for (int high = 0; high < 2; high++) {
            FrameWriter frame = FrameWriter.key(32, 64).m(4, "1").m(20, high == 1 ? "110" : "10");
            block(frame, 0);
            block(frame, 1);
            frame.m(high == 1 ? 25 : 20, "0");
            block(frame, 1);
            due(decoded(frame, 3), 3, 7, 0, 4, 4, 4);
        }
        for (int high = 0; high < 2; high++) {
            FrameWriter frame = FrameWriter.key(16, 32).m(24, "1").m(40, high == 1 ? "110" : "10");
            block(frame, 0);
            block(frame, 1);
            frame.m(high == 1 ? 45 : 40, "0");
            block(frame, 1);
            due(decoded(frame, 3), 1, 3, 0, 2, 2, 2);
        }
    }

    private static void above(String division, int blocks, int n) {
        FrameWriter frame = FrameWriter.key(64, 128).m(0, division);
        block(frame, 0);
        if (blocks == 2) {
            block(frame, 1);
        }
        frame.m(5 * n, "0");
        block(frame, 1);
        due(decoded(frame, blocks + 1), 0, 15, 0, 8, 8, 8);
    }

    private static void narrowerOnTheLeft() {
        DUE.says("plus 2 if that of the UNIT on the left is less high than s");
        String[] divisions = {"0", "10", "110"};
        for (int i = 0; i < 3; i++) {
            FrameWriter frame = FrameWriter.key(128, 64).m(0, divisions[i]);
            block(frame, 0);
            if (i > 0) {
                block(frame, 1);
            }
            frame.m(i == 1 ? 10 : 0, "0");
            block(frame, 1);
            due(decoded(frame, i > 0 ? 3 : 2), 15, 7, 8, 0, 8, 8);
        }
        for (int i = 0; i < 3; i++) {
            FrameWriter frame = FrameWriter.key(64, 32).m(3, "1").m(20, divisions[i]);
            block(frame, 0);
            if (i > 0) {
                block(frame, 1);
            }
            frame.m(i == 1 ? 30 : 20, "0");
            block(frame, 1);
            due(decoded(frame, i > 0 ? 3 : 2), 7, 3, 4, 0, 4, 4);
        }
    }

    private static void bothNeighbours() {
        DUE.says("n = 1, plus 2");
        FrameWriter frame = FrameWriter.key(128, 128);
        frame.m(0, "0");
        block(frame, 0);
        frame.m(0, "110");
        block(frame, 1);
        block(frame, 1);
        frame.m(0, "10");
        block(frame, 1);
        block(frame, 1);
        frame.m(15, "0");
        block(frame, 2);
        due(decoded(frame, 6), 15, 15, 8, 8, 8, 8);
    }

    private static void neighboursNotThere() {
        DUE.says("\"There\" is a UNIT that is INSIDE and whose block was decoded in this FRAME");
        VideoDecoder x = new VideoDecoder();
        FrameWriter first = FrameWriter.key(128, 64).m(0, "10");
        block(first, 0);
        block(first, 1);
        first.m(10, "10");
        block(first, 1);
        block(first, 2);
        Calls.decodeLearning(DUE, x, first);
        // The blocks of the frame before are not there any more: n is 0, and no neighbour has SKIP.
        FrameWriter next = FrameWriter.intra(128, 64).m(0, "0");
        block(next, 0);
        next.m(0, "0");
        block(next, 1);
        Calls.decodeLearning(DUE, x, next);
        DUE.be("blocks", x.count(3), 2);
    }

    private static void squaresRowByRow() {
        DUE.says("Squares of 64 x 64 samples of plane 0, row by row");
        FrameWriter frame = FrameWriter.key(192, 192);
        for (int i = 0; i < 9; i++) {
            // Each has a mode of its own, by the modes above and on the left.
            int above = i < 3 ? 0 : i - 3;
            int left = i % 3 == 0 ? 0 : i - 1;
            int skips = (i < 3 ? 0 : 1) + (i % 3 == 0 ? 0 : 1);
            frame.m(0, "0").m(60 + skips, "1").ladder(75 + 9 * (10 * above + left), i, 9).ladder(1011 + 9 * i, 9, 9);
        }
        VideoDecoder x = decoded(frame, 9);
        for (int i = 0; i < 9; i++) {
            DUE.be("mode " + i, x.block(i % 3 * 8 + 7, i / 3 * 8 + 7, 7), i);
        }
    }

    private static void quartersRowByRow() {
        DUE.says("Quarters are DIVIDED, row by row");
        FrameWriter frame = FrameWriter.key(64, 64).m(0, "111");
        for (int i = 0; i < 4; i++) {
            int above = i < 2 ? 0 : i - 2 + 1;
            int left = i % 2 == 0 ? 0 : i;
            int skips = (i < 2 ? 0 : 1) + i % 2;
            frame.m(20, "0").m(60 + skips, "1").ladder(75 + 9 * (10 * above + left), i + 1, 9);
            frame.ladder(1011 + 9 * (i + 1), 0, 9);
        }
        VideoDecoder x = decoded(frame, 4);
        for (int i = 0; i < 4; i++) {
            DUE.be("mode " + i, x.block(i % 2 * 4 + 3, i / 2 * 4 + 3, 7), i + 1);
        }
    }

    private static void dataOfAllUnits() {
        DUE.says("A block's data hold for all its UNITS");
        FrameWriter frame = FrameWriter.key(40, 40).m(0, "0").m(60, "1").ladder(75, 4, 9).ladder(1047, 2, 9);
        VideoDecoder x = decoded(frame, 1);
        for (int i = 0; i < 25; i++) {
            due(x, i % 5, i / 5, 0, 0, 8, 8, 0, 1, 0, 4, 2, -1, -1, -1, 0, 0, 0, 0, -1);
        }
    }

    private static String eights(String block) {
        String sixteen = "111" + block.repeat(4);
        String thirtyTwo = "111" + sixteen.repeat(4);
        return ("111" + thirtyTwo.repeat(4)).repeat(9);
    }

    private static void mostBlocks() {
        DUE.says("192 x 192 in blocks of 8 x 8: as many as there can be, frame behind frame");
        VideoDecoder x = new VideoDecoder();
        Calls.decode(x, FrameWriter.key(192, 192).bits(eights("100")));
        for (int i = 0; i < 4; i++) {
            DUE.be("blocks", x.count(3), 576);
            for (int unit = 0; unit < 576; unit++) {
                due(x, unit % 24, unit / 24, unit % 24, unit / 24, 1, 1, 0, 1);
                DUE.be("REFERENCE", x.block(unit % 24, unit / 24, 9), i == 0 ? -1 : i - 1);
            }
            DUE.thrown("column 24", IndexOutOfBoundsException.class, () -> x.block(24, 3, 0));
            DUE.thrown("row 24", IndexOutOfBoundsException.class, () -> x.block(3, 24, 0));
            String reference = new String[] {"0", "10", "11", "0"}[i];
            FrameWriter next = FrameWriter.inter().bits(eights("1 1" + reference + "10"));
            next.level = 20;
            DUE.be("next", Calls.decode(x, next), 1);
        }
    }

    private static void unitsInside() {
        DUE.says("W8 = (W + 7) / 8 columns and H8 rows are INSIDE");
        for (int side : new int[] {1, 7, 8, 9, 15, 16, 17, 63, 64, 65, 127, 128, 129, 184, 185, 191, 192}) {
            VideoDecoder x = new VideoDecoder();
            Calls.decode(x, FrameWriter.key(side, 8));
            int last = (side - 1) / 8;
            DUE.be("last column of " + side, x.block(last, 0, 1), 0);
            DUE.thrown("one more", IndexOutOfBoundsException.class, () -> x.block(last + 1, 0, 0));
            DUE.thrown("row 1", IndexOutOfBoundsException.class, () -> x.block(0, 1, 0));
            Calls.decode(x, FrameWriter.key(8, side));
            DUE.be("last row of " + side, x.block(0, last, 0), 0);
            DUE.thrown("one more", IndexOutOfBoundsException.class, () -> x.block(0, last + 1, 0));
            DUE.thrown("column 1", IndexOutOfBoundsException.class, () -> x.block(1, 0, 0));
        }
    }
}
