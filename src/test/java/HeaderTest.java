import java.util.Arrays;

/** FRAME: its plain header with the faults 1 to 7, and what lasts from one frame to the next. */
public final class HeaderTest {
    private static final Due DUE = new Due();

    public static void main(String[] args) {
        bitBehindTheEnd();
        firstBits();
        slotShownAgainIsEmpty();
        keySizes();
        intraOnlySizes();
        keyRefreshesAll();
        refreshedBits();
        referencesToNothing();
        referencesOfOtherSizes();
        sizeOfReferences();
        kernels();
        faultMetFirst();
        secondHeaderLengths();
        nextWholeByte();
        faultChangesNothing();
        DUE.close("HeaderTest");
    }

    private static FrameWriter grey(int width, int height) {
        return FrameWriter.key(width, height).bits("100");
    }

    private static FrameWriter intra(int width, int height, int refreshed) {
        FrameWriter frame = FrameWriter.intra(width, height);
        frame.refreshed = refreshed;
        return frame.bits("100");
    }

    /** Tells all that can be told, so that the header has every part. */
    private static FrameWriter full(FrameWriter frame) {
        frame.extrasCount = true;
        frame.extras = new Integer[] {1, -2, 3, null, 63, -63};
        frame.deltas = new int[] {15, -15, 1};
        frame.inUse = true;
        frame.tree = new int[] {1, 2, 3, 255, 5, 6, 7};
        frame.guesses = new int[] {255, 9, 10};
        frame.featuresTold = true;
        for (int i = 0; i < 8; i++) {
            frame.features[i] = new Integer[] {i * 30, -i, i % 4, i % 2 == 0 ? null : 1};
        }
        return frame;
    }

    private static void bitBehindTheEnd() {
        DUE.says("a bit behind the FRAME's end: fault 1");
        VideoDecoder x = new VideoDecoder();
        Calls.decode(x, grey(8, 8));
        FrameWriter[] frames = {
            grey(8, 8), full(grey(8, 8)), FrameWriter.intra(8, 8), full(FrameWriter.intra(8, 8)),
            FrameWriter.inter(), full(FrameWriter.inter())};
        for (FrameWriter frame : frames) {
            byte[] bytes = frame.bytes();
            int data = bytes.length - frame.data.bytes().length;
            for (int cut = 1; cut <= data + 1; cut++) {
                int due = cut < frame.headerLength() ? -1 : cut <= data ? -7 : 1;
                DUE.be("cut to " + cut, Calls.decode(x, Arrays.copyOf(bytes, cut)), due);
            }
        }
        DUE.be("one byte", Calls.decode(x, new byte[] {(byte) 0x80}), -1);
    }

    private static void firstBits() {
        DUE.says("2 bits: 2, else fault 2");
        VideoDecoder x = new VideoDecoder();
        byte[] frame = grey(8, 8).bytes();
        for (int bits = 0; bits < 4; bits++) {
            frame[0] = (byte) (frame[0] & 63 | bits << 6);
            DUE.be("first bits " + bits, Calls.decode(x, frame), bits == 2 ? 1 : -2);
            if (bits != 2) {
                DUE.be("one byte", Calls.decode(x, new byte[] {(byte) (bits << 6)}), -2);
                DUE.be("as of AGAIN", Calls.decode(x, new byte[] {(byte) (bits << 6 | 0x3C)}), -2);
            }
        }
    }

    private static void slotShownAgainIsEmpty() {
        DUE.says("AGAIN: fault 3: it holds none");
        VideoDecoder x = new VideoDecoder();
        for (int slot = 0; slot < 8; slot++) {
            DUE.be("AGAIN of slot " + slot, Calls.decode(x, FrameWriter.again(slot)), -3);
        }
        Calls.decode(x, intra(8, 8, 1 << 6));
        for (int slot = 0; slot < 8; slot++) {
            DUE.be("AGAIN of slot " + slot, Calls.decode(x, FrameWriter.again(slot)), slot == 6 ? 1 : -3);
        }
    }

    private static void keySizes() {
        DUE.says("8 bits W - 1, 8 bits H - 1 (fault 4: above 192)");
        for (int side : new int[] {1, 2, 191, 192, 193, 194, 255, 256}) {
            VideoDecoder x = new VideoDecoder();
            int due = side > 192 ? -4 : 1;
            DUE.be("width " + side, Calls.decode(x, FrameWriter.key(side, 8)), due);
            DUE.be("height " + side, Calls.decode(x, FrameWriter.key(9, side)), due);
            DUE.be("both " + side, Calls.decode(x, FrameWriter.key(side, side)), due);
            if (due == 1) {
                DUE.be("its width", x.size(-1, 0), side);
                DUE.be("its height", x.size(-1, 1), side);
            }
        }
    }

    private static void intraOnlySizes() {
        DUE.says("INTRA ONLY: W, H are told as of a KEY (8 bits each, fault 4)");
        for (int side : new int[] {1, 2, 191, 192, 193, 194, 255, 256}) {
            VideoDecoder x = new VideoDecoder();
            int due = side > 192 ? -4 : 1;
            DUE.be("width " + side, Calls.decode(x, FrameWriter.intra(side, 8)), due);
            DUE.be("height " + side, Calls.decode(x, FrameWriter.intra(9, side)), due);
            DUE.be("both " + side, Calls.decode(x, FrameWriter.intra(side, side)), due);
            DUE.be("count 7", x.count(7), due == 1 ? 1 : -1);
        }
    }

    private static void keyRefreshesAll() {
        DUE.says("KEY: all SLOTS are REFRESHED");
        VideoDecoder x = new VideoDecoder();
        Calls.decode(x, grey(8, 8));
        Calls.decode(x, grey(9, 10));
        for (int slot = 0; slot < 8; slot++) {
            DUE.be("width of slot " + slot, x.size(slot, 0), 9);
            DUE.be("height of slot " + slot, x.size(slot, 1), 10);
        }
    }

    private static void refreshedBits() {
        DUE.says("SLOT k is REFRESHED if bit k, of value 2 to the k, is set");
        for (int refreshed : new int[] {0, 1, 2, 4, 8, 16, 32, 64, 128, 0x55, 0xAA, 254, 127, 255}) {
            VideoDecoder x = new VideoDecoder();
            Calls.decode(x, grey(8, 8));
            Calls.decode(x, intra(8, 9, refreshed));
            FrameWriter inter = FrameWriter.inter();
            for (int slot = 0; slot < 8; slot++) {
                boolean set = (refreshed >> slot & 1) == 1;
                DUE.be("height of slot " + slot, x.size(slot, 1), set ? 9 : 8);
                inter.references = new int[] {slot, slot, slot};
            }
            DUE.be("shown all the same", x.size(-1, 1), 9);
            inter.refreshed = refreshed;
            Calls.decode(x, inter.bits("1 0 0"));
            for (int slot = 0; slot < 8; slot++) {
                boolean set = (refreshed >> slot & 1) == 1;
                // The frame has the size of slot 7, which was refreshed by the one before or not.
                DUE.be("height of slot " + slot, x.size(slot, 1), set ? x.size(-1, 1) : 8);
            }
        }
    }

    private static void referencesToNothing() {
        DUE.says("the SLOT of REFERENCE 0, 1, 2 (fault 3: it holds none)");
        VideoDecoder x = new VideoDecoder();
        DUE.be("all empty", Calls.decode(x, FrameWriter.inter()), -3);
        Calls.decode(x, intra(8, 8, 1 << 4));
        for (int i = 0; i < 3; i++) {
            for (int slot = 0; slot < 8; slot++) {
                FrameWriter frame = FrameWriter.inter();
                frame.refreshed = 0;
                frame.references = new int[] {4, 4, 4};
                frame.references[i] = slot;
                DUE.be("REFERENCE " + i + " of slot " + slot, Calls.decode(x, frame), slot == 4 ? 1 : -3);
            }
        }
    }

    private static void referencesOfOtherSizes() {
        DUE.says("fault 5: their PICTURES are not all of one size");
        VideoDecoder x = new VideoDecoder();
        Calls.decode(x, intra(8, 8, 1));
        Calls.decode(x, intra(9, 8, 2));
        Calls.decode(x, intra(8, 9, 4));
        Calls.decode(x, intra(8, 8, 8));
        int[][] sizes = {{8, 8}, {9, 8}, {8, 9}, {8, 8}};
        for (int i = 0; i < 64; i++) {
            int[] slots = {i >> 4, i >> 2 & 3, i & 3};
            FrameWriter frame = FrameWriter.inter();
            frame.refreshed = 0;
            frame.references = slots;
            boolean alike = Arrays.equals(sizes[slots[0]], sizes[slots[1]])
                    && Arrays.equals(sizes[slots[1]], sizes[slots[2]]);
            DUE.be("references " + Arrays.toString(slots), Calls.decode(x, frame), alike ? 1 : -5);
        }
    }

    private static void sizeOfReferences() {
        DUE.says("one size, which is the FRAME's");
        VideoDecoder x = new VideoDecoder();
        Calls.decode(x, intra(8, 8, 1));
        Calls.decode(x, intra(17, 5, 2));
        for (int slot : new int[] {0, 1, 0}) {
            FrameWriter frame = FrameWriter.inter();
            frame.refreshed = 4;
            frame.references = new int[] {slot, slot, slot};
            DUE.be("decode", Calls.decode(x, frame), 1);
            DUE.be("width", x.size(2, 0), slot == 0 ? 8 : 17);
            DUE.be("height", x.size(2, 1), slot == 0 ? 8 : 5);
        }
    }

    private static void kernels() {
        DUE.says("2 bits KERNEL: 0, 1; 2 for each block; 3 is fault 6");
        for (int kernel = 0; kernel < 4; kernel++) {
            VideoDecoder x = new VideoDecoder();
            Calls.decode(x, grey(8, 8));
            FrameWriter frame = FrameWriter.inter();
            frame.kernel = kernel;
            frame.bits("1 1 0 0 1");
            DUE.be("kernel " + kernel, Calls.decode(x, frame), kernel == 3 ? -6 : 1);
            if (kernel < 3) {
                DUE.be("of the block", x.block(0, 0, 16), kernel == 2 ? 1 : kernel);
            }
        }
    }

    private static void faultMetFirst() {
        DUE.says("Of several faults the one counts that is met first as the FRAME is read");
        VideoDecoder x = new VideoDecoder();
        Calls.decode(x, intra(8, 8, 1));
        Calls.decode(x, intra(16, 8, 2));
        FrameWriter frame = FrameWriter.inter();
        frame.references = new int[] {0, 1, 5};
        frame.kernel = 3;
        frame.secondLength = 0;
        DUE.be("3 before 5, 6, 7", Calls.decode(x, frame), -3);
        DUE.be("3 before 1", Calls.decode(x, Arrays.copyOf(frame.bytes(), 4)), -3);
        DUE.be("1 before 3", Calls.decode(x, Arrays.copyOf(frame.bytes(), 2)), -1);
        frame.references[2] = 1;
        DUE.be("5 before 6, 7", Calls.decode(x, frame), -5);
        DUE.be("5 before 1", Calls.decode(x, Arrays.copyOf(frame.bytes(), 4)), -5);
        frame.references[1] = 0;
        frame.references[2] = 0;
        DUE.be("6 before 7", Calls.decode(x, frame), -6);
        DUE.be("6 before 1", Calls.decode(x, Arrays.copyOf(frame.bytes(), 5)), -6);
        DUE.be("1 before 6", Calls.decode(x, Arrays.copyOf(frame.bytes(), 3)), -1);
        DUE.be("2 before 3", Calls.decode(x, new byte[] {0x3C}), -2);
        DUE.be("2 before 1", Calls.decode(x, new byte[] {0x40}), -2);
        FrameWriter wide = FrameWriter.key(193, 193);
        wide.secondLength = 0;
        DUE.be("4 before 7", Calls.decode(x, wide), -4);
        DUE.be("4 before 1", Calls.decode(x, Arrays.copyOf(wide.bytes(), 3)), -4);
        DUE.be("1 before 4", Calls.decode(x, Arrays.copyOf(wide.bytes(), 1)), -1);
    }

    private static void secondHeaderLengths() {
        DUE.says("Fault 7: it has none (0 bytes), or it and at least one byte more are not there");
        VideoDecoder x = new VideoDecoder();
        FrameWriter frame = grey(8, 8);
        int behind = frame.bytes().length - frame.headerLength();
        for (int length : new int[] {0, 1, behind - 2, behind - 1, behind, behind + 1, 256, 32768, 65535}) {
            frame.secondLength = length;
            int due = length == 0 || length >= behind ? -7 : 1;
            DUE.be("second header of " + length, Calls.decode(x, frame), due);
        }
        // Also where the bytes are on the tape, but in the next frame.
        frame.secondLength = behind;
        byte[] bytes = frame.bytes();
        DUE.be("byte of the next frame", Calls.decode(x, Calls.chunk(1, bytes, FrameWriter.again(0))), -7);
        DUE.be("fault 1", x.fault(1), 0);
    }

    private static void nextWholeByte() {
        DUE.says("it begins with the next whole byte");
        int[] seen = new int[8];
        for (int told = 0; told < 64; told++) {
            FrameWriter frame = grey(8, 8);
            frame.extrasCount = true;
            frame.extras = new Integer[6];
            for (int i = 0; i < 6; i++) {
                frame.extras[i] = (told >> i & 1) == 1 ? Integer.valueOf(told) : null;
            }
            frame.deltas[0] = told % 2;
            frame.keep = true;
            frame.fixed = true;
            frame.models.put(0, 99);
            frame.models.put(2940, 77);
            VideoDecoder x = new VideoDecoder();
            DUE.be("decode", Calls.decode(x, frame), 1);
            DUE.be("first model", x.model(0, 0), 99);
            DUE.be("last model", x.model(0, 2940), 77);
            DUE.be("SKIP", x.block(0, 0, 5), 1);
            seen[frame.headerBits() % 8] = 1;
        }
        DUE.be("kinds of ends", Arrays.stream(seen).sum(), 8);
    }

    /** A wrong frame that tells extras, features and a map must leave none of them behind. */
    private static void faultChangesNothing() {
        DUE.says("A FRAME with a fault (1 to 7) changes nothing");
        FrameWriter resilient = coloured(true);
        resilient.resilient = true;
        FrameWriter key = coloured(false);
        key.width = 99;
        key.secondLength = 60000;
        FrameWriter kernel = coloured(true);
        kernel.kernel = 3;
        FrameWriter[] wrong = {coloured(true), resilient, key, kernel, FrameWriter.intra(193, 8), full(coloured(true))};
        for (FrameWriter frame : wrong) {
            frame.secondLength = frame.secondLength == null ? 0 : frame.secondLength;
            for (int cut = frame.bytes().length; cut > 0; cut -= 3) {
                nothingChangesBy(Arrays.copyOf(frame.bytes(), cut));
            }
        }
    }

    private static void nothingChangesBy(byte[] wrong) {
        VideoDecoder x = new VideoDecoder();
        VideoDecoder y = new VideoDecoder();
        byte[] first = coloured(false).bytes();
        Calls.decode(x, first);
        Calls.decode(y, first);
        DUE.be("a fault", Calls.decode(x, wrong) < 0 ? 1 : 0, 1);
        DUE.be("memory", Calls.memory(x), Calls.memory(y));
        FrameWriter next = FrameWriter.inter();
        next.inUse = true;
        next.level = 30;
        next.extrasCount = true;
        next.transformMode = 1;
        next.keep = true;
        next.bits("1 11 0 1 0 0110 0 0 0 1 1 0");
        DUE.be("next", Calls.decode(x, next), 1);
        DUE.be("next", Calls.decode(y, next), 1);
        DUE.be("memory", Calls.memory(x), Calls.memory(y));
    }

    private static FrameWriter coloured(boolean inter) {
        FrameWriter frame = FrameWriter.key(16, 8);
        frame.inter = inter;
        frame.keep = true;
        frame.transformMode = 1;
        frame.inUse = true;
        frame.tree = new int[] {128, 128, 128, 128, 128, 128, 128};
        frame.featuresTold = true;
        frame.absolute = inter;
        frame.features[inter ? 0 : 3][0] = inter ? 3 : -30;
        frame.features[inter ? 3 : 1][3] = 1;
        frame.extrasCount = true;
        frame.extras = new Integer[] {inter ? 9 : -2, 5, null, null, inter ? 20 : 3, 1};
        return frame.bits("1 011 1 0 0 001 0 0 11000 0 0");
    }
}
