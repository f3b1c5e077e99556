/** BLOCKS 1: the segment of a block by tree, guess and map; and what a segment's features settle. */
public final class SegmentTest {
    private static final Due DUE = new Due();
    private static final int[] TREE = {10, 20, 30, 40, 50, 60, 70};
    private static final int[] GUESSES = {90, 150, 210};

    public static void main(String[] args) {
        numbersOfTheTree();
        leastOfTheUnitsInside();
        mapNotTold();
        stillTakesTheTree();
        notGuessedTakesTheTree();
        guessedRight();
        mapTakesTheNumber();
        mapTakesTheNumberNotTold();
        notInUse();
        skipBySegment();
        otherBySegment();
        referenceInStillFrames();
        referenceBySegmentAlone();
        kindOfASegmentWithSkip();
        DUE.close("SegmentTest");
    }

    private static FrameWriter used(FrameWriter frame) {
        frame.inUse = true;
        return frame;
    }

    private static FrameWriter told(FrameWriter frame) {
        frame.inUse = true;
        frame.tree = TREE;
        return frame;
    }

    private static FrameWriter tree(FrameWriter frame, int segment) {
        int high = segment >> 2;
        int middle = segment >> 1 & 1;
        return frame.b(10, high).b(20 + 10 * high, middle).b(40 + 10 * (2 * high + middle), segment & 1);
    }

    private static FrameWriter still(FrameWriter frame, int skips) {
        return frame.m(60 + skips, "1").ladder(75, 0, 9).ladder(1011, 0, 9);
    }

    /** Not OTHER, with SKIP, of 8 samples. */
    private static FrameWriter own(FrameWriter frame, int skips) {
        return frame.m(60 + skips, "1").m(1101, "0").ladder(975, 0, 9).ladder(1011, 0, 9);
    }

    private static VideoDecoder decoded(FrameWriter frame) {
        VideoDecoder x = new VideoDecoder();
        Calls.decodeLearning(DUE, x, frame);
        return x;
    }

    /** 16 x 16 in quarters with these segments. */
    private static VideoDecoder mapped(int... segments) {
        FrameWriter frame = told(FrameWriter.key(16, 16)).m(40, "111");
        for (int i = 0; i < 4; i++) {
            still(tree(frame, segments[i]), i == 3 ? 2 : i > 0 ? 1 : 0);
        }
        VideoDecoder x = decoded(frame);
        for (int i = 0; i < 4; i++) {
            DUE.be("segment told", x.block(i % 2, i / 2, 4), segments[i]);
        }
        return x;
    }

    private static void numbersOfTheTree() {
        DUE.says("TREE: t1 = B(T0), t2 = B(T(1 + t1)), t3 = B(T(3 + 2 * t1 + t2)): 4 * t1 + 2 * t2 + t3");
        for (int segment = 0; segment < 8; segment++) {
            VideoDecoder x = decoded(still(tree(told(FrameWriter.key(8, 8)), segment), 0));
            DUE.be("segment", x.block(0, 0, 4), segment);
        }
    }

    private static void leastOfTheUnitsInside() {
        DUE.says("GUESS value: the least number in the MAP over its UNITS INSIDE");
        for (int i = 0; i < 4; i++) {
            int[] segments = {7, 6, 7, 6};
            segments[i] = 3;
            VideoDecoder x = mapped(segments);
            FrameWriter next = used(FrameWriter.inter()).startFrom(x).m(40, "0").m(60, "1").m(1101, "0");
            Calls.decodeLearning(DUE, x, next.ladder(984, 0, 9).ladder(1011, 0, 9));
            DUE.be("segment", x.block(1, 1, 4), 3);
        }
        // Units of the block that are outside would say 0.
        FrameWriter frame = told(FrameWriter.key(40, 40)).m(0, "0");
        VideoDecoder x = decoded(still(tree(frame, 5), 0));
        FrameWriter next = used(FrameWriter.inter()).startFrom(x).m(0, "0").m(60, "1").m(1101, "0");
        Calls.decodeLearning(DUE, x, next.ladder(1002, 0, 9).ladder(1011, 0, 9));
        DUE.be("segment of a block that goes beyond", x.block(4, 4, 4), 5);
    }

    private static void mapNotTold() {
        DUE.says("The MAP is not told: it is that");
        VideoDecoder x = mapped(1, 2, 3, 4);
        FrameWriter next = used(FrameWriter.inter()).startFrom(x).m(40, "111");
        own(own(own(own(next, 0), 1), 1), 2);
        Calls.decodeLearning(DUE, x, next);
        for (int i = 0; i < 4; i++) {
            DUE.be("segment", x.block(i % 2, i / 2, 4), i + 1);
        }
    }

    private static void stillTakesTheTree() {
        DUE.says("STILL, or not GUESSED: TREE");
        VideoDecoder x = mapped(1, 2, 3, 4);
        FrameWriter next = told(FrameWriter.intra(16, 16)).m(40, "0");
        next.guesses = GUESSES;
        Calls.decodeLearning(DUE, x, still(tree(next, 6), 0));
        DUE.be("segment", x.block(1, 1, 4), 6);
        next = told(FrameWriter.key(16, 16)).m(40, "0");
        next.guesses = GUESSES;
        Calls.decodeLearning(DUE, x, still(tree(next, 1), 0));
        DUE.be("segment", x.block(1, 1, 4), 1);
    }

    private static void notGuessedTakesTheTree() {
        DUE.says("not GUESSED: TREE, in a frame that is not STILL");
        VideoDecoder x = mapped(1, 2, 3, 4);
        FrameWriter next = told(FrameWriter.inter()).startFrom(x).m(40, "111");
        for (int i = 0; i < 4; i++) {
            own(tree(next, 7 - i), i == 3 ? 2 : i > 0 ? 1 : 0);
        }
        Calls.decodeLearning(DUE, x, next);
        for (int i = 0; i < 4; i++) {
            DUE.be("segment", x.block(i % 2, i / 2, 4), 7 - i);
        }
    }

    private static void guessedRight() {
        DUE.says("GUESSED: n neighbours that were guessed right: B(GUESS n): 1: the GUESS value; 0: TREE");
        for (int right = 0; right < 16; right++) {
            VideoDecoder x = mapped(1, 2, 3, 4);
            FrameWriter next = told(FrameWriter.inter()).startFrom(x).m(40, "111");
            next.guesses = GUESSES;
            for (int i = 0; i < 4; i++) {
                int above = i < 2 ? 0 : right >> i - 2 & 1;
                int left = i % 2 == 0 ? 0 : right >> i - 1 & 1;
                int bit = right >> i & 1;
                next.b(GUESSES[above + left], bit);
                own(bit == 1 ? next : tree(next, 7), i == 3 ? 2 : i > 0 ? 1 : 0);
            }
            Calls.decodeLearning(DUE, x, next);
            for (int i = 0; i < 4; i++) {
                DUE.be("segment", x.block(i % 2, i / 2, 4), (right >> i & 1) == 1 ? i + 1 : 7);
            }
        }
        // A tree that gives the GUESS value is not guessed right.
        VideoDecoder x = mapped(1, 2, 3, 4);
        FrameWriter next = told(FrameWriter.inter()).startFrom(x).m(40, "110");
        next.guesses = GUESSES;
        next.b(90, 0);
        own(tree(next, 1), 0).b(90, 1);
        Calls.decodeLearning(DUE, x, own(next, 1));
        DUE.be("left", x.block(0, 1, 4), 1);
        DUE.be("right", x.block(1, 1, 4), 2);
    }

    private static void mapTakesTheNumber() {
        DUE.says("The MAP takes the number");
        VideoDecoder x = mapped(1, 2, 3, 4);
        FrameWriter next = told(FrameWriter.inter()).startFrom(x).m(40, "110");
        next.guesses = GUESSES;
        next.b(90, 0);
        own(tree(next, 6), 0).b(90, 1);
        Calls.decodeLearning(DUE, x, own(next, 1));
        FrameWriter last = used(FrameWriter.inter()).startFrom(x).m(40, "111");
        own(own(own(own(last, 0), 1), 1), 2);
        Calls.decodeLearning(DUE, x, last);
        int[] due = {6, 2, 6, 2};
        for (int i = 0; i < 4; i++) {
            DUE.be("segment", x.block(i % 2, i / 2, 4), due[i]);
        }
    }

    private static void mapTakesTheNumberNotTold() {
        DUE.says("The MAP takes the number, also where it is not told");
        VideoDecoder x = mapped(1, 2, 3, 4);
        FrameWriter next = used(FrameWriter.inter()).startFrom(x).m(40, "10");
        Calls.decodeLearning(DUE, x, own(own(next, 0), 1));
        FrameWriter last = used(FrameWriter.inter()).startFrom(x).m(40, "111");
        own(own(own(own(last, 0), 1), 1), 2);
        Calls.decodeLearning(DUE, x, last);
        int[] due = {1, 1, 3, 3};
        for (int i = 0; i < 4; i++) {
            DUE.be("segment", x.block(i % 2, i / 2, 4), due[i]);
        }
    }

    private static void notInUse() {
        DUE.says("Not in use: 0 (and the MAP stays)");
        VideoDecoder x = mapped(5, 5, 5, 5);
        FrameWriter next = FrameWriter.inter().startFrom(x).m(40, "10");
        Calls.decodeLearning(DUE, x, own(own(next, 0), 1));
        DUE.be("segment", x.block(1, 1, 4), 0);
        FrameWriter last = used(FrameWriter.inter()).startFrom(x).m(40, "10");
        Calls.decodeLearning(DUE, x, own(own(last, 0), 1));
        DUE.be("segment", x.block(1, 1, 4), 5);
    }

    private static VideoDecoder grey() {
        VideoDecoder x = new VideoDecoder();
        Calls.decode(x, FrameWriter.key(8, 8).bits("100"));
        return x;
    }

    private static void skipBySegment() {
        DUE.says("SKIP: the segment has skip: 1");
        FrameWriter frame = told(FrameWriter.key(16, 8)).m(43, "1");
        frame.featuresTold = true;
        frame.features[4][3] = 1;
        tree(frame, 4).ladder(75, 0, 9).ladder(1011, 0, 9);
        VideoDecoder x = decoded(still(tree(frame, 3), 1));
        DUE.be("segment", x.block(0, 0, 4), 4);
        DUE.be("SKIP", x.block(0, 0, 5), 1);
        DUE.be("SKIP", x.block(1, 0, 5), 1);
    }

    private static void otherBySegment() {
        DUE.says("OTHER: the segment names a reference: whether it is not 0");
        for (int reference = 0; reference < 4; reference++) {
            VideoDecoder x = grey();
            FrameWriter frame = used(FrameWriter.inter());
            frame.featuresTold = true;
            frame.features[0][2] = reference;
            frame.m(60, "1");
            if (reference == 0) {
                frame.ladder(975, 0, 9).ladder(1011, 0, 9);
            } else {
                frame.m(1116, "0");
            }
            Calls.decodeLearning(DUE, x, frame);
            DUE.be("REFERENCE", x.block(0, 0, 9), reference - 1);
            DUE.be("mode", x.block(0, 0, 7), reference == 0 ? 0 : -1);
        }
    }

    private static void referenceInStillFrames() {
        DUE.says("OTHER, if not STILL: the segment's reference means nothing in a STILL frame");
        for (int reference = 0; reference < 4; reference++) {
            FrameWriter frame = used(FrameWriter.key(8, 8));
            frame.featuresTold = true;
            frame.features[0][2] = reference;
            VideoDecoder x = decoded(frame.m(60, "1").ladder(75, 9, 9).ladder(1092, 9, 9));
            DUE.be("mode", x.block(0, 0, 7), 9);
            DUE.be("REFERENCE", x.block(0, 0, 9), -1);
        }
    }

    private static void referenceBySegmentAlone() {
        DUE.says("references: the segment names one: that one alone");
        for (int doubling = 1; doubling <= 2; doubling++) {
            VideoDecoder x = grey();
            FrameWriter frame = used(FrameWriter.inter());
            frame.featuresTold = true;
            frame.features[0][2] = 2;
            frame.sides[0] = 1;
            frame.doubling = doubling;
            Calls.decodeLearning(DUE, x, frame.m(60, "1").m(1116, "0"));
            DUE.be("first", x.block(0, 0, 9), 1);
            DUE.be("second", x.block(0, 0, 10), -1);
        }
    }

    private static void kindOfASegmentWithSkip() {
        DUE.says("KIND: the segment has skip: ZERO");
        VideoDecoder x = grey();
        FrameWriter frame = used(FrameWriter.inter());
        frame.featuresTold = true;
        frame.features[0][3] = 1;
        frame.kernel = 2;
        Calls.decodeLearning(DUE, x, frame.m(1101, "1").m(1110, "11").m(1125, "1"));
        DUE.be("KIND", x.block(0, 0, 11), 0);
        DUE.be("KERNEL", x.block(0, 0, 16), 1);
        DUE.be("REFERENCE", x.block(0, 0, 9), 2);
    }
}
