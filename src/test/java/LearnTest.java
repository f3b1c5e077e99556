/** AT THE END: what the contexts and slots become. */
public final class LearnTest {
    private static final Due DUE = new Due();

    public static void main(String[] args) {
        notKept();
        keptAsTheyAre();
        notCounted();
        putTogether();
        atMostTwenty();
        withinOneAnd255();
        valueBeforeTheFrame();
        all128BeforeTheFrame();
        oneContextAlone();
        countedInThisFrameAlone();
        slotsHoldThePicture();
        tenPicturesAtOnce();
        DUE.close("LearnTest");
    }

    private static VideoDecoder grey() {
        VideoDecoder x = new VideoDecoder();
        Calls.decode(x, FrameWriter.key(8, 8).bits("100"));
        return x;
    }

    private static FrameWriter own(FrameWriter frame) {
        return frame.m(60, "1").m(1101, "0").ladder(975, 0, 9).ladder(1011, 0, 9);
    }

    private static FrameWriter telling(int context, int k, int value) {
        FrameWriter frame = FrameWriter.inter();
        frame.context = context;
        frame.keep = true;
        frame.fixed = true;
        frame.models.put(k, value);
        return own(frame);
    }

    private static void notKept() {
        DUE.says("KEEP: the CONTEXT becomes the MODELS (else it stays)");
        for (int fixed = 0; fixed < 2; fixed++) {
            VideoDecoder x = grey();
            Calls.decode(x, telling(3, 1500, 77));
            FrameWriter frame = FrameWriter.inter();
            frame.context = 3;
            frame.fixed = fixed == 1;
            frame.models.put(1500, 9);
            frame.models.put(60, 200);
            DUE.be("decode", Calls.decode(x, own(frame)), 1);
            DUE.be("model told", x.model(3, 1500), 77);
            DUE.be("model read", x.model(3, 60), 128);
        }
    }

    private static void keptAsTheyAre() {
        DUE.says("unless FIXED or RESILIENT: the MODELS as the SECOND HEADER left them");
        for (int kind = 0; kind < 4; kind++) {
            VideoDecoder x = grey();
            FrameWriter frame = FrameWriter.inter();
            frame.keep = true;
            frame.fixed = kind % 2 == 1;
            frame.resilient = kind / 2 == 1;
            frame.models.put(60, 200);
            frame.models.put(2940, 3);
            Calls.decode(x, own(frame));
            boolean learns = kind == 0;
            DUE.be("model read", x.model(0, 60), learns ? 125 : 200);
            DUE.be("model not read", x.model(0, 2940), learns ? 128 : 3);
        }
    }

    private static void notCounted() {
        DUE.says("n 0: v");
        VideoDecoder x = grey();
        Calls.decode(x, telling(0, 2000, 55));
        FrameWriter frame = FrameWriter.inter().startFrom(x);
        frame.models.put(2000, 200);
        frame.modelSteps.put(2001, 16);
        Calls.decodeLearning(DUE, x, own(frame));
        DUE.be("as before the frame", x.model(0, 2000), 55);
    }

    /** A row of blocks of 8 x 8, each of which reads model 1011 once; the first ones give zeros. */
    private static int row(FrameWriter frame, int x, int side, int wide, int zeros) {
        if (x >= wide) {
            return zeros;
        }
        if (side == 8) {
            frame.m(x == 0 ? 60 : 61, "1").m(1101, "0").ladder(975, 0, 9).ladder(1011, zeros > 0 ? 0 : 2, 9);
            return zeros - 1;
        }
        if (x + side / 2 < wide) {
            int k = side == 64 ? 0 : side == 32 ? 20 : 40;
            frame.m(k + (x > 0 ? 10 : 0) + 3, "1");
        }
        int left = row(frame, x, side / 2, wide, zeros);
        return row(frame, x + side / 2, side / 2, wide, left);
    }

    private static int learnt(int v, int n, int zeros) {
        VideoDecoder x = new VideoDecoder();
        Calls.decode(x, FrameWriter.key(8 * n, 8));
        FrameWriter first = FrameWriter.inter();
        first.keep = true;
        first.fixed = true;
        first.models.put(1011, v);
        Calls.decode(x, first);
        DUE.be("v", x.model(0, 1011), v);
        FrameWriter frame = FrameWriter.inter().startFrom(x);
        int left = zeros;
        for (int at = 0; at < 8 * n; at += 64) {
            left = row(frame, at, 64, 8 * n, left);
        }
        Calls.decodeLearning(DUE, x, frame);
        return x.model(0, 1011);
    }

    private static void putTogether() {
        DUE.says("w = (256 * zeros + n / 2) / n, f = 128 * (the lesser of n and 20) / 20, R(v * (256 - f) + w * f, 8)");
        DUE.be("one 0", learnt(128, 1, 1), 131);
        DUE.be("one 1", learnt(128, 1, 0), 125);
        DUE.be("1 of 3", learnt(128, 3, 1), (128 * (256 - 19) + 85 * 19 + 128) / 256);
        DUE.be("2 of 3", learnt(100, 3, 2), (100 * (256 - 19) + 171 * 19 + 128) / 256);
        DUE.be("just below one half", learnt(156, 3, 0), (156 * (256 - 19) + 19 + 128) / 256);
        DUE.be("just one half", learnt(65, 1, 0), (65 * (256 - 6) + 6 + 128) / 256);
        for (int n = 2; n <= 24; n += 3) {
            for (int zeros = 0; zeros <= n; zeros += 2) {
                learnt(90, n, zeros);
            }
        }
    }

    private static void atMostTwenty() {
        DUE.says("the lesser of n and 20");
        DUE.be("19", learnt(10, 19, 19), (10 * (256 - 121) + 255 * 121 + 128) / 256);
        for (int n = 20; n <= 24; n++) {
            DUE.be(n + " zeros", learnt(10, n, n), (10 * 128 + 255 * 128 + 128) / 256);
            DUE.be(n + " ones", learnt(200, n, 0), (200 * 128 + 128 + 128) / 256);
        }
    }

    private static void withinOneAnd255() {
        DUE.says("w .. within 1 .. 255");
        for (int v : new int[] {1, 2, 254, 255}) {
            DUE.be("zeros from " + v, learnt(v, 24, 24), (v * 128 + 255 * 128 + 128) / 256);
            DUE.be("ones from " + v, learnt(v, 24, 0), (v * 128 + 128 + 128) / 256);
        }
        DUE.be("least", learnt(1, 24, 0), 1);
        DUE.be("most", learnt(255, 24, 24), 255);
    }

    private static void valueBeforeTheFrame() {
        DUE.says("with its value v in the CONTEXT before the FRAME");
        VideoDecoder x = grey();
        Calls.decode(x, telling(0, 60, 40));
        FrameWriter frame = FrameWriter.inter().startFrom(x);
        frame.models.put(60, 220);
        Calls.decodeLearning(DUE, x, own(frame));
        DUE.be("from 40, not 220", x.model(0, 60), 40 * 250 + 6 + 128 >> 8);
    }

    private static void all128BeforeTheFrame() {
        DUE.says("(128, if they all became that)");
        for (int kind = 0; kind < 2; kind++) {
            VideoDecoder x = grey();
            Calls.decode(x, telling(2, 60, 40));
            FrameWriter frame = kind == 0 ? FrameWriter.key(8, 8) : FrameWriter.intra(8, 8);
            frame.context = 2;
            Calls.decodeLearning(DUE, x, frame.m(60, "1").ladder(75, 0, 9).ladder(1011, 0, 9));
            DUE.be("from 128", x.model(2, 60), 125);
        }
    }

    private static void oneContextAlone() {
        DUE.says("the CONTEXT becomes the MODELS: no other one does");
        for (int context = 0; context < 4; context++) {
            VideoDecoder x = grey();
            Calls.decode(x, telling(context, 1234, 99));
            for (int other = 0; other < 4; other++) {
                DUE.be("context " + other, x.model(other, 1234), other == context ? 99 : 128);
            }
            // And the frame starts from its own context.
            FrameWriter next = FrameWriter.inter();
            next.context = (context + 1) % 4;
            next.keep = true;
            next.fixed = true;
            next.modelSteps.put(1234, 1);
            Calls.decode(x, own(next));
            DUE.be("from its own", x.model((context + 1) % 4, 1234), 129);
            DUE.be("the other stays", x.model(context, 1234), 99);
        }
    }

    private static void countedInThisFrameAlone() {
        DUE.says("COUNTED for k: how many zeros and ones it gave in this FRAME");
        VideoDecoder x = grey();
        for (int i = 0; i < 5; i++) {
            FrameWriter frame = FrameWriter.inter().startFrom(x);
            Calls.decodeLearning(DUE, x, own(frame));
            DUE.be("bits", x.count(4), 4);
        }
    }

    private static FrameWriter sized(int height, int refreshed, boolean shown) {
        FrameWriter frame = FrameWriter.intra(8, height);
        frame.refreshed = refreshed;
        frame.shown = shown;
        return frame;
    }

    private static void slotsHoldThePicture() {
        DUE.says("SLOTS that are REFRESHED hold the PICTURE; SHOWN: it is shown");
        VideoDecoder x = new VideoDecoder();
        Calls.decode(x, sized(3, 1, true));
        Calls.decode(x, sized(4, 128, false));
        DUE.be("slot 0", x.size(0, 1), 3);
        DUE.be("slot 7", x.size(7, 1), 4);
        DUE.be("shown", x.size(-1, 1), 3);
        Calls.decode(x, sized(5, 0, true));
        DUE.be("slot 0", x.size(0, 1), 3);
        DUE.be("slot 7", x.size(7, 1), 4);
        DUE.be("shown", x.size(-1, 1), 5);
        Calls.decode(x, sized(6, 0, false));
        DUE.be("shown", x.size(-1, 1), 5);
        DUE.be("blocks of what is nowhere", x.block(0, 0, 0), 0);
    }

    private static void tenPicturesAtOnce() {
        DUE.says("Eight SLOTS each hold a PICTURE; that shown last stays, too, when no SLOT holds it");
        VideoDecoder x = new VideoDecoder();
        for (int round = 0; round < 3; round++) {
            Calls.decode(x, sized(100 + round, 0, true));
            int check = x.check(-1, 0);
            for (int slot = 0; slot < 8; slot++) {
                Calls.decode(x, sized(10 * round + slot + 1, 1 << slot, false));
            }
            for (int slot = 0; slot < 8; slot++) {
                DUE.be("slot " + slot, x.size(slot, 1), 10 * round + slot + 1);
            }
            DUE.be("shown", x.size(-1, 1), 100 + round);
            DUE.be("its check", x.check(-1, 0), check);
        }
    }
}
