import java.util.Arrays;
import java.util.NoSuchElementException;

/** Promises 4 and 5: chunks, their index, frames hidden and shown again, and all faults. */
public final class ChunkTest {
    private static final Due DUE = new Due();

    public static void main(String[] args) {
        plainChunks();
        indexes();
        hiddenAndAgain();
        eachFault();
        orderOfFaults();
        faultChangesNothing();
        DUE.close("ChunkTest");
    }

    private static byte[] grey(int width, int height) {
        return FrameWriter.key(width, height).bits("100").bytes();
    }

    private static FrameWriter still(int width, int height, int refreshed) {
        FrameWriter frame = FrameWriter.key(width, height).bits("100");
        frame.inter = true;
        frame.intraOnly = true;
        frame.refreshed = refreshed;
        return frame;
    }

    private static void plainChunks() {
        VideoDecoder x = new VideoDecoder();
        DUE.be("decode of nothing", x.decode(), 0);
        DUE.be("fault 0", x.fault(0), 0);
        DUE.be("fault 1", x.fault(1), -1);
        DUE.be("decode of one", Calls.decode(x, grey(8, 8)), 1);
        DUE.be("count 0", x.count(0), 0);
        DUE.be("decode of a wrong one", Calls.decode(x, new byte[] {0x40}), -2);
        DUE.be("fault 1", x.fault(1), 0);
        DUE.be("count 0 behind a fault", x.count(0), 0);
        DUE.be("decode of nothing", x.decode(), 0);
        DUE.be("fault 0 is forgotten", x.fault(0), 0);
        DUE.be("fault 1 is forgotten", x.fault(1), -1);
    }

    private static void indexes() {
        for (int bytes = 1; bytes <= 4; bytes++) {
            for (int frames = 1; frames <= 8; frames++) {
                byte[][] all = new byte[frames][];
                for (int i = 0; i < frames; i++) {
                    all[i] = grey(8, i + 1);
                }
                VideoDecoder x = new VideoDecoder();
                DUE.be("decode of " + frames, Calls.decode(x, Calls.chunk(bytes, all)), frames);
                DUE.be("size", x.size(-1, 1), frames);
            }
        }
        VideoDecoder x = new VideoDecoder();
        int length = grey(8, 8).length;
        byte[] none = {};
        byte[] loose = {1, 2, 3};
        DUE.be("empty frames", Calls.decode(x, Calls.chunk(2, none, grey(8, 8), none)), 1);
        DUE.be("frames counted", x.count(1), 1);
        DUE.be("bytes between", Calls.decode(x, Calls.chunk(1, new int[] {length, 0}, grey(8, 8), loose)), 1);
        DUE.be("an index alone", Calls.decode(x, Calls.chunk(1, none)), 0);
        DUE.be("too long", Calls.decode(x, Calls.chunk(1, new int[] {length, 1}, grey(8, 8))), -8);
        DUE.be("its frame", x.fault(1), -1);
        DUE.be("nothing was decoded", x.count(1), 2);
        DUE.be("far too long", Calls.decode(x, Calls.chunk(4, new int[] {-1, -1}, grey(8, 8))), -8);
        DUE.be("third is wrong", Calls.decode(x, Calls.chunk(1, none, grey(9, 9), new byte[] {0}, grey(8, 8))), -2);
        DUE.be("its frame", x.fault(1), 2);
        DUE.be("the one before stays", x.size(-1, 0), 9);
        DUE.be("count 1", x.count(1), 3);
        DUE.be("count 2", x.count(2), 3);
        byte[] noIndex = Arrays.copyOf(grey(8, 8), length + 1);
        noIndex[length] = (byte) 200;
        DUE.be("last byte like an index's", Calls.decode(x, noIndex), 1);
        DUE.be("one byte like an index's", Calls.decode(x, new byte[] {(byte) 0xC0}), -2);
    }

    private static void hiddenAndAgain() {
        VideoDecoder x = new VideoDecoder();
        FrameWriter hidden = FrameWriter.key(8, 8).bits("100");
        hidden.shown = false;
        DUE.be("decode of a hidden one", Calls.decode(x, hidden), 0);
        DUE.thrown("sample of nothing shown", NoSuchElementException.class, () -> x.sample(-1, 0, 0, 0));
        DUE.be("sample of slot 5", x.sample(5, 0, 0, 0), 128);
        DUE.be("count 1", x.count(1), 1);
        DUE.be("count 2", x.count(2), 0);
        byte[] again = {FrameWriter.again(5)[0], 17, 99};
        DUE.be("shown again", Calls.decode(x, again), 1);
        DUE.be("sample of what is shown", x.sample(-1, 0, 0, 0), 128);
        DUE.be("count 1", x.count(1), 2);
        DUE.be("count 2", x.count(2), 1);
        DUE.be("count 3 stays", x.count(3), 1);
        DUE.be("block stays", x.block(0, 0, 5), 1);
    }

    private static void eachFault() {
        VideoDecoder x = new VideoDecoder();
        byte[] frame = grey(8, 8);
        for (int first = 0; first < 256; first += 64) {
            if (first != 128) {
                DUE.be("first bits", Calls.decode(x, new byte[] {(byte) first, 1, 2, 3, 4, 5, 6, 7, 8, 9, 1}), -2);
            }
        }
        DUE.be("AGAIN of nothing", Calls.decode(x, FrameWriter.again(7)), -3);
        DUE.be("references to nothing", Calls.decode(x, FrameWriter.inter()), -3);
        DUE.be("width 193", Calls.decode(x, grey(193, 8)), -4);
        DUE.be("height 193", Calls.decode(x, grey(8, 193)), -4);
        DUE.be("intra only, height 256", Calls.decode(x, still(8, 256, 1)), -4);
        int head = 8;
        for (int length = 1; length <= head + 1; length++) {
            DUE.be("cut to " + length, Calls.decode(x, Arrays.copyOf(frame, length)), length < head ? -1 : -7);
        }
        DUE.be("nothing was decoded", x.count(1), 0);
        DUE.be("8 x 8", Calls.decode(x, still(8, 8, 1)), 1);
        DUE.be("16 x 8", Calls.decode(x, still(16, 8, 2)), 1);
        DUE.be("8 x 16", Calls.decode(x, still(8, 16, 4)), 1);
        for (int odd = 1; odd < 3; odd++) {
            FrameWriter sizes = FrameWriter.inter();
            sizes.references[1] = odd;
            DUE.be("references of other sizes", Calls.decode(x, sizes), -5);
        }
        FrameWriter kernel = FrameWriter.inter();
        kernel.kernel = 3;
        DUE.be("kernel 3", Calls.decode(x, kernel), -6);
        faultsOfSecondHeader(x);
    }

    private static void faultsOfSecondHeader(VideoDecoder x) {
        FrameWriter frame = FrameWriter.key(8, 8).bits("100");
        int behind = frame.bytes().length - 8;
        frame.secondLength = 0;
        DUE.be("second header of none", Calls.decode(x, frame), -7);
        frame.secondLength = behind;
        DUE.be("second header without data", Calls.decode(x, frame), -7);
        frame.secondLength = 65535;
        DUE.be("second header too long", Calls.decode(x, frame), -7);
        frame.secondLength = behind - 1;
        DUE.be("second header and one byte", Calls.decode(x, frame), 1);
    }

    private static void orderOfFaults() {
        VideoDecoder x = new VideoDecoder();
        Calls.decode(x, still(8, 8, 1));
        Calls.decode(x, still(16, 8, 2));
        FrameWriter frame = FrameWriter.inter();
        frame.references = new int[] {0, 1, 5};
        frame.kernel = 3;
        frame.secondLength = 0;
        DUE.be("3 before 5, 6, 7", Calls.decode(x, frame), -3);
        frame.references[2] = 1;
        DUE.be("5 before 6, 7", Calls.decode(x, frame), -5);
        frame.references[1] = 0;
        frame.references[2] = 0;
        DUE.be("6 before 7", Calls.decode(x, frame), -6);
        DUE.be("6 before 1", Calls.decode(x, Arrays.copyOf(frame.bytes(), 5)), -6);
        DUE.be("1 before 6", Calls.decode(x, Arrays.copyOf(frame.bytes(), 3)), -1);
        DUE.be("2 before 3", Calls.decode(x, new byte[] {0x3C}), -2);
    }

    /** A wrong frame that tells extras, features and a map must leave none of them behind. */
    private static void faultChangesNothing() {
        VideoDecoder x = new VideoDecoder();
        VideoDecoder y = new VideoDecoder();
        byte[] first = coloured(false).bytes();
        DUE.be("first", Calls.decode(x, first), 1);
        DUE.be("first", Calls.decode(y, first), 1);
        String before = Calls.memory(x);
        FrameWriter wrong = coloured(true);
        wrong.secondLength = 0;
        DUE.be("wrong", Calls.decode(x, wrong), -7);
        wrong.resilient = true;
        DUE.be("wrong", Calls.decode(x, wrong), -7);
        FrameWriter key = coloured(false);
        key.secondLength = 60000;
        DUE.be("wrong", Calls.decode(x, key), -7);
        DUE.be("memory", Calls.memory(x), before);
        FrameWriter next = FrameWriter.inter();
        next.inUse = true;
        next.level = 30;
        next.extrasCount = true;
        next.transformMode = 1;
        next.keep = true;
        next.bits("1 11 0 1 0 0110 0 0 0 1 1 0");
        DUE.be("next", Calls.decode(x, next), 1);
        DUE.be("next", Calls.decode(y, next), 1);
        DUE.be("memory", Calls.memory(x), Calls.memory(y));
    }

    private static FrameWriter coloured(boolean inter) {
        FrameWriter frame = FrameWriter.key(16, 8);
        frame.inter = inter;
        frame.keep = true;
        frame.transformMode = 1;
        frame.inUse = true;
        frame.tree = new int[] {128, 128, 128, 128, 128, 128, 128};
        frame.featuresTold = true;
        frame.absolute = inter;
        frame.features[inter ? 0 : 3][0] = inter ? 3 : -30;
        frame.features[inter ? 3 : 1][3] = 1;
        frame.extrasCount = true;
        frame.extras = new Integer[] {inter ? 9 : -2, 5, null, null, inter ? 20 : 3, 1};
        return frame.bits("1 011 1 0 0 001 0 0 11000 0 0");
    }
}
