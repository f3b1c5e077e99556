import java.util.Random;

/** All promises together, on drawn streams, and on noise that is no stream. */
public final class RandomStreamsTest {
    private static final int STREAMS = 120;
    private static final Due DUE = new Due();

    public static void main(String[] args) {
        if (args.length == 2) {
            compare(Integer.parseInt(args[0]), Integer.parseInt(args[1]));
        } else {
            compare(0, STREAMS);
            noise();
        }
        DUE.close("RandomStreamsTest");
    }

    /** The state behind every chunk is that of the decoder which takes the document at its word. */
    private static void compare(int from, int to) {
        DUE.says("Moving pictures are decoded to the bit");
        for (int seed = from; seed < to; seed++) {
            VideoDecoder x = new VideoDecoder();
            PlainDecoder plain = new PlainDecoder();
            int at = 0;
            for (byte[] chunk : new RandomStreams(seed).chunks()) {
                String name = "stream " + seed + ", chunk " + at++;
                DUE.be(name + ": decode", Calls.decode(x, chunk), plain.decode(chunk));
                DUE.be(name + ": state", Calls.state(x), plain.state());
            }
        }
    }

    /** Whatever is fed, decode answers or throws what it may throw, and the tape is empty. */
    private static void noise() {
        DUE.says("UnsupportedOperationException: a fault; and nothing else ever");
        Random random = new Random(1);
        VideoDecoder x = new VideoDecoder();
        PlainDecoder plain = new PlainDecoder();
        for (int i = 0; i < 3000; i++) {
            byte[] chunk = new byte[random.nextInt(random.nextInt(10) == 0 ? 3000 : 60)];
            random.nextBytes(chunk);
            if (chunk.length > 0) {
                chunk[0] = (byte) (chunk[0] & 63 | 128);
            }
            if (chunk.length > 8 && random.nextBoolean()) {
                chunk[chunk.length - 1] = (byte) (192 + random.nextInt(3));
                chunk[chunk.length - 3 - (chunk[chunk.length - 1] & 7)] = chunk[chunk.length - 1];
            }
            DUE.be("noise " + i + ": decode", Calls.decode(x, chunk), plain.decode(chunk));
            DUE.be("noise " + i + ": fault 1", x.fault(1), plain.faultAt);
            DUE.be("noise " + i + ": the tape is empty", x.count(0), 0);
        }
        DUE.be("state behind the noise", Calls.state(x), plain.state());
    }
}
