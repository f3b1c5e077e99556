/** Promise 11: what is counted, with the filter over an edge worked out by hand. */
public final class CountTest {
    private static final Due DUE = new Due();

    public static void main(String[] args) {
        counts();
        filterOfEight();
        filterOfFour();
        levels();
        DUE.close("CountTest");
    }

    private static void due(VideoDecoder x, int... counts) {
        for (int i = 0; i < counts.length; i++) {
            DUE.be("count " + (i + 1), x.count(i + 1), counts[i]);
        }
    }

    private static void counts() {
        DUE.says("3 blocks, 4 BITS read with MODELS, 5 NUMBERS that were not 0, 6 lines, 7 KEY 0, INTRA ONLY 1, else 2");
        VideoDecoder x = new VideoDecoder();
        Calls.decode(x, FrameWriter.key(8, 8).bits("0 0 0  1100 0  0 0 0  0 0"));
        due(x, 1, 1, 1, 3 + 4 + 3 + 2, 1, 0, 0);
        FrameWriter still = FrameWriter.key(8, 8);
        still.inter = true;
        still.intraOnly = true;
        still.shown = false;
        Calls.decode(x, still.bits("100"));
        due(x, 2, 1, 1, 3, 0, 0, 1);
        Calls.decode(x, FrameWriter.again(0));
        due(x, 3, 2, 1, 3, 0, 0, 1);
        Calls.decode(x, FrameWriter.inter().bits("1 0 0 0"));
        due(x, 4, 3, 1, 4, 0, 0, 2);
        Calls.decode(x, new byte[] {0});
        due(x, 4, 3, 1, 4, 0, 0, 2);
        x.feed(1, 2, 3, 4, 5);
        DUE.be("count 0", x.count(0), 20);
    }

    /** Two blocks of 8 x 8, the right one lighter by 6. */
    private static FrameWriter step(int size) {
        FrameWriter frame = FrameWriter.key(16, 8);
        frame.transformMode = size;
        return frame.bits("1  1 0 0  0 0 0");
    }

    private static void filterOfEight() {
        DUE.says("8 or more and FLAT: n = 3");
        FrameWriter frame = step(1);
        frame.level = 20;
        VideoDecoder x = new VideoDecoder();
        Calls.decode(x, frame.bits("1100 0  0 0"));
        int[] row = {128, 128, 128, 128, 128, 129, 130, 130, 132, 133, 133, 134, 134, 134, 134, 134};
        for (int i = 0; i < 16; i++) {
            DUE.be("sample " + i, x.sample(0, 0, i, 3), row[i]);
        }
        due(x, 1, 1, 2, 7 + 4 + 2, 1, 8, 0);
    }

    /** Without any flat filter: f is 18, q0 goes down and p0 up by 2, the next ones by 1. */
    private static void filterOfFour() {
        DUE.says("not HEV: f = R(f1, 1), q1 = s8(q1 - f), p1 = s8(p1 + f)");
        FrameWriter frame = step(0);
        frame.level = 20;
        VideoDecoder x = new VideoDecoder();
        // Four squares of plane 0 and the one of plane 2 are empty; that of plane 1 has the step.
        Calls.decode(x, frame.bits("0 0 0 0  1100 0  0"));
        DUE.be("count 5", x.count(5), 1);
        DUE.be("plane 0 has no step", x.sample(0, 0, 8, 0), 128);
        // Chroma: 4 x 4 by waves, lighter by 6; f = 18, f1 = 2, f2 = 2, then 1.
        int[] row = {128, 128, 129, 130, 132, 133, 134, 134};
        for (int i = 0; i < 8; i++) {
            DUE.be("chroma sample " + i, x.sample(0, 1, i, 3), row[i]);
        }
        DUE.be("count 6", x.count(6), 4);
    }

    /** The level by segment and extras; with a level of 0 nothing is filtered. */
    private static void levels() {
        DUE.says("6 lines that the FILTER changed (0 with LEVEL 0)");
        for (int kind = 0; kind < 5; kind++) {
            FrameWriter frame = FrameWriter.key(16, 8);
            frame.transformMode = 1;
            frame.level = kind == 0 ? 0 : 3;
            frame.extrasCount = kind == 1 || kind == 2;
            frame.extras = new Integer[] {kind == 1 ? -3 : 5, null, null, null, null, null};
            frame.inUse = kind > 2;
            frame.featuresTold = kind > 2;
            frame.absolute = kind == 3;
            frame.features[0][1] = kind == 3 ? 0 : -2;
            frame.sharp = 7;
            VideoDecoder x = new VideoDecoder();
            Calls.decode(x, frame.bits("1  1 0 0  0 0 0  1100 0  0 0"));
            // The step needs 2 * 6 + 3 = 15 at most 2 * (l + 2) + 1: a level of 5.
            DUE.be("lines by kind " + kind, x.count(6), kind == 2 ? 8 : 0);
        }
    }
}
