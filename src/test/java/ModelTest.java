/** Promise 9: what the contexts hold, by KEEP, FIXED, RESILIENT, the second header and learning. */
public final class ModelTest {
    private static final Due DUE = new Due();

    public static void main(String[] args) {
        notKept();
        fixed();
        learnt();
        contextsAreApart();
        DUE.close("ModelTest");
    }

    private static FrameWriter grey() {
        FrameWriter frame = FrameWriter.key(8, 8);
        frame.context = 2;
        frame.models.put(60, 0);
        frame.models.put(2940, 200);
        frame.models.put(0, 250);
        frame.modelSteps.put(61, -16);
        frame.modelSteps.put(62, 1);
        frame.data.bit(1, 1);
        return frame.bits("00");
    }

    private static void notKept() {
        DUE.says("MODEL k of CONTEXT, as that holds it: not kept");
        VideoDecoder x = new VideoDecoder();
        Calls.decode(x, grey());
        DUE.be("SKIP", x.block(0, 0, 5), 1);
        all("not kept", x, 0);
        all("not kept", x, 2);
    }

    private static void all(String name, VideoDecoder x, int context) {
        for (int k = 0; k < 2941; k++) {
            DUE.be(name + " " + k, x.model(context, k), 128);
        }
    }

    private static void fixed() {
        DUE.says("as that holds it: FIXED or RESILIENT");
        VideoDecoder x = new VideoDecoder();
        FrameWriter frame = grey();
        frame.keep = true;
        frame.fixed = true;
        Calls.decode(x, frame);
        due("fixed", x, 2, 250, 1, 112, 129, 128, 200);
        all("fixed", x, 0);
        VideoDecoder y = new VideoDecoder();
        frame = grey();
        frame.keep = true;
        frame.resilient = true;
        Calls.decode(y, frame);
        due("resilient", y, 2, 250, 1, 112, 129, 128, 200);
        FrameWriter limits = FrameWriter.inter();
        limits.context = 2;
        limits.keep = true;
        limits.fixed = true;
        limits.modelSteps.put(0, 16);
        limits.modelSteps.put(60, -3);
        limits.data.bit(1, 1);
        Calls.decode(y, limits.bits("1 0 0"));
        due("limits", y, 2, 255, 1, 112, 129, 128, 200);
    }

    private static void due(String name, VideoDecoder x, int context, int... models) {
        int[] places = {0, 60, 61, 62, 75, 2940};
        for (int i = 0; i < places.length; i++) {
            DUE.be(name + " " + places[i], x.model(context, places[i]), models[i]);
        }
    }

    private static void learnt() {
        DUE.says("as that holds it: put together");
        VideoDecoder x = new VideoDecoder();
        FrameWriter frame = grey();
        frame.keep = true;
        Calls.decode(x, frame);
        // One bit weighs 6 of 256: 60 gave a 1, 75 and 1011 a 0; what was not read is as before.
        due("learnt", x, 2, 128, 125, 128, 128, 131, 128);
        DUE.be("learnt 1011", x.model(2, 1011), 131);
        FrameWriter many = FrameWriter.key(64, 64);
        many.keep = true;
        many.bits("111");
        for (int i = 0; i < 4; i++) {
            many.bits("111");
            for (int j = 0; j < 4; j++) {
                many.bits("111 100 100 100 100");
            }
        }
        Calls.decode(x, many);
        // 64 blocks read a 0 with model 1011, and more than 20 weigh one half.
        DUE.be("n above 20", x.model(0, 1011), 128 * 128 + 255 * 128 + 128 >> 8);
        DUE.be("STILL and before", x.model(2, 60), 128);
        DUE.be("partition 64", x.model(0, 0), 125);
    }

    private static void contextsAreApart() {
        DUE.says("four CONTEXTS each hold all MODELS");
        VideoDecoder x = new VideoDecoder();
        FrameWriter frame = FrameWriter.key(8, 8);
        frame.keep = true;
        frame.context = 1;
        Calls.decode(x, frame.bits("100"));
        FrameWriter next = FrameWriter.inter();
        next.keep = true;
        next.context = 3;
        Calls.decode(x, next.bits("1 0 0 0"));
        DUE.be("context 1", x.model(1, 60), 125);
        DUE.be("context 3", x.model(3, 60), 125);
        DUE.be("context 1, OTHER", x.model(1, 1101), 128);
        DUE.be("context 3, OTHER", x.model(3, 1101), 131);
        next = FrameWriter.inter();
        next.resilient = true;
        Calls.decode(x, next.bits("1 0 0 0"));
        for (int context = 0; context < 4; context++) {
            all("resilient", x, context);
        }
    }
}
