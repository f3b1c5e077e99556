import java.util.Arrays;

/** Promises 2 and 3, and THE TAPE: feed and end, and what they refuse. */
public final class TapeTest {
    private static final Due DUE = new Due();

    public static void main(String[] args) {
        fourBytesHighestFirst();
        answersItsLength();
        noRoomForTwenty();
        refusedFeedChangesNothing();
        atMost65536();
        firstBytesStay();
        endOutsideOfTheTape();
        refusedEndChangesNothing();
        emptyBehindDecode();
        fiveHundredAndTwelveCalls();
        DUE.close("TapeTest");
    }

    private static byte[] grey() {
        return FrameWriter.key(8, 8).bits("100").bytes();
    }

    private static VideoDecoder filled(int length) {
        VideoDecoder x = new VideoDecoder();
        for (int i = 0; i < (length + 19) / 20; i++) {
            x.feed(0, 0, 0, 0, 0);
        }
        x.end(length);
        return x;
    }

    private static void fourBytesHighestFirst() {
        DUE.says("The four bytes of each, the highest first, come to THE TAPE");
        FrameWriter frame = FrameWriter.key(8, 8);
        frame.keep = true;
        frame.fixed = true;
        for (int k = 0; k < 100; k++) {
            frame.models.put(k, 1 + k);
        }
        byte[] bytes = frame.bytes();
        VideoDecoder x = new VideoDecoder();
        for (int i = 0; i < bytes.length; i += 20) {
            byte[] b = Arrays.copyOf(Arrays.copyOfRange(bytes, i, bytes.length), 20);
            x.feed(word(b, 0), word(b, 4), word(b, 8), word(b, 12), word(b, 16));
        }
        x.end(bytes.length);
        DUE.be("decode", x.decode(), 1);
        for (int k = 0; k < 100; k++) {
            DUE.be("model " + k, x.model(0, k), 1 + k);
        }
    }

    private static int word(byte[] b, int at) {
        return b[at] << 24 | (b[at + 1] & 255) << 16 | (b[at + 2] & 255) << 8 | b[at + 3] & 255;
    }

    private static void answersItsLength() {
        DUE.says("feed: its length");
        VideoDecoder x = new VideoDecoder();
        for (int i = 1; i <= 3276; i++) {
            DUE.be("feed " + i, x.feed(i, -1, 0, 1, 2), 20 * i);
        }
    }

    private static void noRoomForTwenty() {
        DUE.says("IllegalStateException: there is no room for 20");
        for (int length = 65515; length <= 65536; length++) {
            int l = length;
            VideoDecoder x = filled(Math.min(l, 65520));
            if (l > 65520) {
                x.end(l - 20);
                x.feed(0, 0, 0, 0, 0);
            }
            DUE.be("length", x.count(0), l);
            if (l <= 65516) {
                DUE.be("feed at " + l, x.feed(0, 0, 0, 0, 0), l + 20);
            } else {
                DUE.thrown("feed at " + l, IllegalStateException.class, () -> x.feed(0, 0, 0, 0, 0));
                DUE.be("length behind it", x.count(0), l);
            }
        }
    }

    private static void refusedFeedChangesNothing() {
        DUE.says("a feed that is refused brings nothing to THE TAPE");
        VideoDecoder x = new VideoDecoder();
        byte[] frame = grey();
        Calls.fill(x, frame);
        while (x.count(0) <= 65516) {
            x.feed(0, 0, 0, 0, 0);
        }
        int length = x.count(0);
        DUE.thrown("feed", IllegalStateException.class, () -> x.feed(-1, -1, -1, -1, -1));
        DUE.be("end", x.end(length), length);
        DUE.be("decode", x.decode(), 1);
        DUE.be("sample", x.sample(-1, 0, 3, 3), 128);
    }

    private static void atMost65536() {
        DUE.says("THE TAPE is a row of at most 65,536 bytes");
        VideoDecoder x = filled(65516);
        DUE.be("the last twenty", x.feed(0, 0, 0, 0, 0), 65536);
        DUE.be("end of all", x.end(65536), 65536);
        DUE.thrown("end beyond", IllegalArgumentException.class, () -> x.end(65537));
        DUE.thrown("decode of zeros", UnsupportedOperationException.class, x::decode);
        VideoDecoder y = filled(0);
        // A whole tape that is one frame: its data ends with the tape.
        Calls.fill(y, FrameWriter.key(192, 192).bytes());
        while (y.count(0) < 65516) {
            y.feed(-1431655766, 1431655765, 19088743, -1985229329, 123456789);
            y.end(Math.min(y.count(0), 65516));
        }
        DUE.be("the last twenty", y.feed(5, 6, 7, 8, 9), 65536);
        DUE.be("decode of a full tape", y.decode(), 1);
        DUE.be("width", y.size(-1, 0), 192);
    }

    private static void firstBytesStay() {
        DUE.says("Only the first n bytes of THE TAPE stay: n");
        byte[] frame = grey();
        for (int cut = 0; cut <= frame.length; cut++) {
            VideoDecoder x = new VideoDecoder();
            Calls.fill(x, frame);
            DUE.be("end " + cut, x.end(cut), cut);
            DUE.be("length", x.count(0), cut);
            // What was cut off is gone: these bytes come right behind the first ones.
            for (int i = cut; i < frame.length; i++) {
                x.feed(frame[i] << 24, -1, -1, -1, -1);
                x.end(i + 1);
            }
            DUE.be("decode", x.decode(), 1);
            DUE.be("sample", x.sample(-1, 1, 3, 3), 128);
        }
    }

    private static void endOutsideOfTheTape() {
        DUE.says("IllegalArgumentException: not 0 .. its length");
        for (int length : new int[] {0, 1, 19, 20, 65535, 65536}) {
            VideoDecoder x = filled(Math.min(length, 65516));
            if (length > 65516) {
                x.feed(0, 0, 0, 0, 0);
                x.end(length);
            }
            for (int n : new int[] {-1, Integer.MIN_VALUE, length + 1, Integer.MAX_VALUE}) {
                DUE.thrown("end " + n + " of " + length, IllegalArgumentException.class, () -> x.end(n));
            }
            DUE.be("end of all", x.end(length), length);
            DUE.be("end of none", x.end(0), 0);
            DUE.thrown("end of one more", IllegalArgumentException.class, () -> x.end(1));
        }
    }

    private static void refusedEndChangesNothing() {
        DUE.says("an end that is refused cuts nothing");
        VideoDecoder x = new VideoDecoder();
        Calls.fill(x, grey());
        int length = x.count(0);
        DUE.thrown("end -1", IllegalArgumentException.class, () -> x.end(-1));
        DUE.thrown("end beyond", IllegalArgumentException.class, () -> x.end(length + 1));
        DUE.be("length", x.count(0), length);
        DUE.be("decode", x.decode(), 1);
    }

    private static void emptyBehindDecode() {
        DUE.says("decode takes it, and it is empty then, also if it throws");
        VideoDecoder x = new VideoDecoder();
        Calls.fill(x, grey());
        x.decode();
        DUE.be("length behind decode", x.count(0), 0);
        DUE.thrown("end of one", IllegalArgumentException.class, () -> x.end(1));
        DUE.be("decode of nothing", x.decode(), 0);
        for (byte[] wrong : new byte[][] {{0}, {(byte) 0xC0, 1, (byte) 0xC0}, {(byte) 0x80}}) {
            Calls.fill(x, wrong);
            DUE.thrown("decode", UnsupportedOperationException.class, x::decode);
            DUE.be("length behind a fault", x.count(0), 0);
            DUE.thrown("end of one", IllegalArgumentException.class, () -> x.end(1));
        }
        DUE.be("feed from the start", x.feed(1, 2, 3, 4, 5), 20);
    }

    private static void fiveHundredAndTwelveCalls() {
        DUE.says("An object is used for at most 512 calls");
        VideoDecoder x = new VideoDecoder();
        byte[] frame = grey();
        int calls = 0;
        int shown = 0;
        int each = (frame.length + 19) / 20 + 2;
        while (calls + each <= 511) {
            shown += Calls.decode(x, frame);
            calls += each;
        }
        while (calls < 511) {
            x.count(0);
            calls++;
        }
        DUE.be("the last call", x.count(2), shown);
    }
}
