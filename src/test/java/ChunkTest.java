import java.util.Arrays;
import java.util.NoSuchElementException;

/** Promises 4 and 5, CHUNK and INDEX: which bytes are frames, how many were shown, where a fault was. */
public final class ChunkTest {
    private static final Due DUE = new Due();
    private static final byte[] NONE = {};
    private static final byte[] WRONG = {0};

    public static void main(String[] args) {
        emptyChunk();
        indexBySizeAndNumber();
        markersOnly192To223();
        sameByteAtItsPlace();
        shorterChunkHasNone();
        lengthsLowestFirst();
        framesEndWhereTheyEnd();
        bytesBetween();
        lengthZero();
        lengthsTooLong();
        lengthsThatWrapRound();
        faultBeforeAnyFrame();
        framesBeforeAFault();
        framesBehindAFault();
        faultsOfTheLastChunk();
        hiddenFrames();
        framesShownAgain();
        howManyWereShown();
        DUE.close("ChunkTest");
    }

    private static byte[] grey(int width, int height) {
        return FrameWriter.key(width, height).bits("100").bytes();
    }

    private static byte[] joined(byte[] first, int... rest) {
        byte[] out = Arrays.copyOf(first, first.length + rest.length);
        for (int i = 0; i < rest.length; i++) {
            out[first.length + i] = (byte) rest[i];
        }
        return out;
    }

    private static void emptyChunk() {
        DUE.says("An empty one has none");
        VideoDecoder x = new VideoDecoder();
        DUE.be("decode of nothing", x.decode(), 0);
        DUE.be("fault 0", x.fault(0), 0);
        DUE.be("fault 1", x.fault(1), -1);
        DUE.be("frames", x.count(1), 0);
        DUE.be("decode of one", Calls.decode(x, grey(8, 8)), 1);
        DUE.be("decode of nothing", x.decode(), 0);
        DUE.be("frames", x.count(1), 1);
        DUE.be("what was shown stays", x.sample(-1, 0, 0, 0), 128);
    }

    private static void indexBySizeAndNumber() {
        DUE.says("last byte is 192 + 8 * (s - 1) + (n - 1), s 1 .. 4, n 1 .. 8: an INDEX is behind its FRAMES");
        for (int bytes = 1; bytes <= 4; bytes++) {
            for (int frames = 1; frames <= 8; frames++) {
                byte[][] all = new byte[frames][];
                for (int i = 0; i < frames; i++) {
                    all[i] = grey(8, i + 1);
                }
                VideoDecoder x = new VideoDecoder();
                DUE.be("decode of " + frames, Calls.decode(x, Calls.chunk(bytes, all)), frames);
                DUE.be("height", x.size(-1, 1), frames);
                DUE.be("frames", x.count(1), frames);
            }
        }
    }

    private static void markersOnly192To223() {
        DUE.says("Else it is one FRAME");
        for (int marker = 0; marker < 256; marker++) {
            if (marker < 192 || marker > 223) {
                // Were there an index, its frames of no length would leave nothing to show.
                for (int zeros = 1; zeros <= 40; zeros++) {
                    byte[] chunk = joined(grey(8, 8), marker);
                    chunk = Arrays.copyOf(chunk, chunk.length + zeros + 1);
                    chunk[chunk.length - 1] = (byte) marker;
                    VideoDecoder x = new VideoDecoder();
                    DUE.be("decode with " + marker + " and " + zeros, Calls.decode(x, chunk), 1);
                }
            }
        }
    }

    private static void sameByteAtItsPlace() {
        DUE.says("the byte 2 + s * n from its end is the same");
        for (int s = 1; s <= 4; s++) {
            for (int n = 1; n <= 8; n++) {
                int marker = 192 + 8 * (s - 1) + n - 1;
                for (int place = s * n; place <= 4 + s * n; place++) {
                    byte[] chunk = Arrays.copyOf(grey(8, 8), grey(8, 8).length + 36);
                    chunk[chunk.length - 1] = (byte) marker;
                    chunk[chunk.length - place] = (byte) marker;
                    VideoDecoder x = new VideoDecoder();
                    int due = place == 2 + s * n ? 0 : 1;
                    DUE.be("decode with " + marker + " at " + place, Calls.decode(x, chunk), due);
                    chunk[chunk.length - place] ^= (byte) 1;
                    DUE.be("decode with another byte", Calls.decode(new VideoDecoder(), chunk), 1);
                }
            }
        }
    }

    private static void shorterChunkHasNone() {
        DUE.says("a shorter CHUNK has none");
        for (int s = 1; s <= 4; s++) {
            for (int n = 1; n <= 8; n++) {
                int marker = 192 + 8 * (s - 1) + n - 1;
                byte[] index = new byte[2 + s * n];
                index[0] = (byte) marker;
                index[index.length - 1] = (byte) marker;
                VideoDecoder x = new VideoDecoder();
                DUE.be("an index alone", Calls.decode(x, index), 0);
                DUE.be("frames", x.count(1), 0);
                byte[] shorter = Arrays.copyOfRange(index, 1, index.length);
                shorter[0] = (byte) marker;
                DUE.be("one byte less is a frame", Calls.decode(x, shorter), -2);
                DUE.be("its number", x.fault(1), 0);
                // A frame with what looks like the end of an index: its header alone has eight bytes.
                byte[] cut = new byte[1 + s * n];
                cut[0] = (byte) 0x80;
                cut[cut.length - 1] = (byte) marker;
                DUE.be("one byte less, cut", Calls.decode(x, cut), cut.length < 8 ? -1 : -7);
            }
        }
        VideoDecoder x = new VideoDecoder();
        DUE.be("one byte", Calls.decode(x, new byte[] {(byte) 0xC0}), -2);
        DUE.be("one byte", Calls.decode(x, new byte[] {(byte) 0xDF}), -2);
    }

    private static void lengthsLowestFirst() {
        DUE.says("the lengths of n FRAMES, s bytes each, the lowest first");
        byte[] longer = Arrays.copyOf(grey(8, 9), 258 + 256);
        for (int s = 2; s <= 4; s++) {
            VideoDecoder x = new VideoDecoder();
            DUE.be("decode", Calls.decode(x, Calls.chunk(s, longer, grey(8, 10), longer, grey(8, 11))), 4);
            DUE.be("height", x.size(-1, 1), 11);
        }
    }

    private static void framesEndWhereTheyEnd() {
        DUE.says("the FRAMES stand one behind the other from the CHUNK's first byte on");
        VideoDecoder x = new VideoDecoder();
        FrameWriter writer = FrameWriter.key(8, 8).bits("100 1010101010101010101010101010101010");
        byte[] frame = writer.bytes();
        int head = writer.headerLength();
        int data = frame.length - writer.data.bytes().length;
        for (int cut = 1; cut <= frame.length; cut++) {
            // The rest of the frame stands behind its end, and does not count.
            byte[] chunk = Calls.chunk(1, new int[] {cut, 0, 0}, frame);
            DUE.be("cut to " + cut, Calls.decode(x, chunk), cut < head ? -1 : cut <= data ? -7 : 1);
        }
        byte[] both = Calls.chunk(1, new int[] {frame.length, 1}, frame, FrameWriter.again(3));
        DUE.be("one and one", Calls.decode(x, both), 2);
    }

    private static void bytesBetween() {
        DUE.says("Bytes between the FRAMES and the INDEX are not looked at");
        int length = grey(8, 8).length;
        for (byte[] loose : new byte[][] {{0}, {1, 2, 3}, {(byte) 0xC1, (byte) 0xC1}, grey(9, 9)}) {
            VideoDecoder x = new VideoDecoder();
            byte[] chunk = Calls.chunk(1, new int[] {length, 0}, grey(8, 8), loose);
            DUE.be("decode", Calls.decode(x, chunk), 1);
            DUE.be("width", x.size(-1, 0), 8);
            DUE.be("frames", x.count(1), 1);
        }
        VideoDecoder x = new VideoDecoder();
        DUE.be("nothing but such bytes", Calls.decode(x, Calls.chunk(2, new int[] {0, 0}, WRONG)), 0);
        DUE.be("fault", x.fault(0), 0);
    }

    private static void lengthZero() {
        DUE.says("a FRAME of length 0 is passed over");
        VideoDecoder x = new VideoDecoder();
        DUE.be("between two", Calls.decode(x, Calls.chunk(2, NONE, grey(8, 8), NONE, grey(8, 9), NONE)), 2);
        DUE.be("frames", x.count(1), 2);
        DUE.be("all eight", Calls.decode(x, Calls.chunk(1, NONE, NONE, NONE, NONE, NONE, NONE, NONE, NONE)), 0);
        DUE.be("fault", x.fault(0), 0);
        DUE.be("frames", x.count(1), 2);
        DUE.be("height", x.size(-1, 1), 9);
        DUE.says("the FRAME of it, from 0 (those of length 0 counted), at which that was");
        for (int before = 0; before < 8; before++) {
            byte[][] frames = new byte[before + 1][];
            Arrays.fill(frames, NONE);
            frames[before] = WRONG;
            DUE.be("decode", Calls.decode(x, Calls.chunk(3, frames)), -2);
            DUE.be("number", x.fault(1), before);
        }
    }

    private static void lengthsTooLong() {
        DUE.says("Fault 8: an INDEX whose lengths are more than there is before it");
        int length = grey(8, 8).length;
        for (int s = 1; s <= 4; s++) {
            VideoDecoder x = new VideoDecoder();
            DUE.be("just as long", Calls.decode(x, Calls.chunk(s, new int[] {length, 0}, grey(8, 8))), 1);
            DUE.be("one more", Calls.decode(x, Calls.chunk(s, new int[] {length, 1}, grey(8, 8))), -8);
            DUE.be("one more", Calls.decode(x, Calls.chunk(s, new int[] {length + 1}, grey(8, 8))), -8);
            DUE.be("one more than nothing", Calls.decode(x, Calls.chunk(s, new int[] {1})), -8);
            DUE.be("frames", x.count(1), 1);
        }
        VideoDecoder x = new VideoDecoder();
        DUE.be("third byte", Calls.decode(x, Calls.chunk(3, new int[] {0x10000 + length}, grey(8, 8))), -8);
        DUE.be("fourth byte", Calls.decode(x, Calls.chunk(4, new int[] {0x1000000 + length}, grey(8, 8))), -8);
    }

    private static void lengthsThatWrapRound() {
        DUE.says("Fault 8, also where the sum of lengths would not go into an int");
        int length = grey(8, 8).length;
        int half = Integer.MIN_VALUE;
        VideoDecoder x = new VideoDecoder();
        DUE.be("highest bit", Calls.decode(x, Calls.chunk(4, new int[] {half}, grey(8, 8))), -8);
        DUE.be("largest", Calls.decode(x, Calls.chunk(4, new int[] {-1}, grey(8, 8))), -8);
        DUE.be("2 to the 32", Calls.decode(x, Calls.chunk(4, new int[] {half, half}, grey(8, 8))), -8);
        DUE.be("and more", Calls.decode(x, Calls.chunk(4, new int[] {length, half, half}, grey(8, 8))), -8);
        DUE.be("less than 0", Calls.decode(x, Calls.chunk(4, new int[] {length, -5}, grey(8, 8))), -8);
        DUE.be("all", Calls.decode(x, Calls.chunk(4, new int[] {-1, -1, -1, -1, -1, -1, -1, -1}, grey(8, 8))), -8);
        DUE.be("frames", x.count(1), 0);
    }

    private static void faultBeforeAnyFrame() {
        DUE.says("Fault 8 is told before any FRAME, at FRAME -1");
        VideoDecoder x = new VideoDecoder();
        String before = Calls.memory(x);
        byte[] frame = grey(8, 8);
        byte[] chunk = Calls.chunk(1, new int[] {frame.length, 1, 200}, frame, WRONG);
        DUE.be("decode", Calls.decode(x, chunk), -8);
        DUE.be("fault 1", x.fault(1), -1);
        DUE.be("memory", Calls.memory(x), before);
    }

    private static void framesBeforeAFault() {
        DUE.says("the FRAMES of the CHUNK before it stay decoded (what was shown before it stays)");
        VideoDecoder x = new VideoDecoder();
        DUE.be("third is wrong", Calls.decode(x, Calls.chunk(1, grey(7, 7), grey(9, 9), WRONG)), -2);
        DUE.be("fault 1", x.fault(1), 2);
        DUE.be("width shown", x.size(-1, 0), 9);
        DUE.be("width in slot 6", x.size(6, 0), 9);
        DUE.be("frames", x.count(1), 2);
        DUE.be("shown", x.count(2), 2);
        DUE.be("block", x.block(1, 1, 5), 0);
    }

    private static void framesBehindAFault() {
        DUE.says("those behind it are not looked at");
        VideoDecoder x = new VideoDecoder();
        DUE.be("first is wrong", Calls.decode(x, Calls.chunk(1, WRONG, grey(9, 9))), -2);
        DUE.be("fault 1", x.fault(1), 0);
        DUE.be("frames", x.count(1), 0);
        DUE.thrown("width", NoSuchElementException.class, () -> x.size(-1, 0));
        DUE.be("two wrong", Calls.decode(x, Calls.chunk(1, FrameWriter.again(2), WRONG)), -3);
        DUE.be("fault 1", x.fault(1), 0);
    }

    private static void faultsOfTheLastChunk() {
        DUE.says("the fault of the last CHUNK, 0 if it had none; -1");
        VideoDecoder x = new VideoDecoder();
        DUE.be("fault 0 of a new object", x.fault(0), 0);
        DUE.be("fault 1 of a new object", x.fault(1), -1);
        Calls.decode(x, Calls.chunk(1, NONE, WRONG));
        x.feed(1, 2, 3, 4, 5);
        x.end(0);
        DUE.be("fault 0", x.fault(0), 2);
        DUE.be("fault 1", x.fault(1), 1);
        DUE.be("decode of nothing", x.decode(), 0);
        DUE.be("fault 0 is forgotten", x.fault(0), 0);
        DUE.be("fault 1 is forgotten", x.fault(1), -1);
        Calls.decode(x, WRONG);
        DUE.be("fault 1", x.fault(1), 0);
        Calls.decode(x, Calls.chunk(1, new int[] {9}));
        DUE.be("fault 0", x.fault(0), 8);
        DUE.be("fault 1", x.fault(1), -1);
        Calls.decode(x, grey(8, 8));
        DUE.be("fault 0", x.fault(0), 0);
        DUE.be("fault 1", x.fault(1), -1);
        DUE.says("fault: IllegalArgumentException: another what");
        for (int what : new int[] {-1, 2, Integer.MIN_VALUE, Integer.MAX_VALUE}) {
            DUE.thrown("fault " + what, IllegalArgumentException.class, () -> x.fault(what));
        }
    }

    private static void hiddenFrames() {
        DUE.says("SHOWN: it is shown (else it is not)");
        VideoDecoder x = new VideoDecoder();
        FrameWriter hidden = FrameWriter.key(8, 8).bits("100");
        hidden.shown = false;
        DUE.be("decode of a hidden one", Calls.decode(x, hidden), 0);
        DUE.thrown("sample of nothing shown", NoSuchElementException.class, () -> x.sample(-1, 0, 0, 0));
        DUE.be("sample of slot 5", x.sample(5, 0, 0, 0), 128);
        DUE.be("count 1", x.count(1), 1);
        DUE.be("count 2", x.count(2), 0);
        Calls.decode(x, grey(5, 5));
        Calls.decode(x, hidden);
        DUE.be("shown last", x.size(-1, 0), 5);
        DUE.be("in the slots", x.size(0, 0), 8);
    }

    private static void framesShownAgain() {
        DUE.says("AGAIN: its PICTURE is shown, and the FRAME is done (what is behind is not looked at)");
        VideoDecoder x = new VideoDecoder();
        Calls.decode(x, grey(8, 8));
        for (int slot = 0; slot < 8; slot++) {
            FrameWriter one = FrameWriter.intra(8, 9 + slot).bits("1 100 100 100 100");
            one.refreshed = 1 << slot;
            one.shown = false;
            Calls.decode(x, one);
        }
        int blocks = x.count(3);
        for (int slot = 0; slot < 8; slot++) {
            byte first = FrameWriter.again(slot)[0];
            // The last two bits of the byte and all bytes behind it mean nothing.
            for (byte[] frame : new byte[][] {{first}, {(byte) (first | 3)}, {first, 17, 99}, {first, -1, 0, 5}}) {
                int shown = x.count(2);
                DUE.be("shown again", Calls.decode(x, frame), 1);
                DUE.be("height", x.size(-1, 1), 9 + slot);
                DUE.be("count 2", x.count(2), shown + 1);
            }
        }
        DUE.be("count 1", x.count(1), 1 + 8 + 32);
        DUE.be("count 3 stays", x.count(3), blocks);
        DUE.be("count 7 stays", x.count(7), 1);
        DUE.be("block stays", x.block(0, 1, 1), 1);
    }

    private static void howManyWereShown() {
        DUE.says("decode: how many were shown");
        VideoDecoder x = new VideoDecoder();
        FrameWriter hidden = FrameWriter.key(8, 8).bits("100");
        hidden.shown = false;
        byte[] again = FrameWriter.again(7);
        byte[] chunk = Calls.chunk(1, hidden.bytes(), again, grey(8, 8), hidden.bytes(), again, again);
        DUE.be("two hidden, one shown, three again", Calls.decode(x, chunk), 4);
        DUE.be("count 1", x.count(1), 6);
        DUE.be("count 2", x.count(2), 4);
        DUE.be("all hidden", Calls.decode(x, Calls.chunk(1, hidden.bytes(), hidden.bytes())), 0);
    }
}
