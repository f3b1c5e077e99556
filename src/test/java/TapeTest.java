/** Promises 2 and 3: feed and end. */
public final class TapeTest {
    public static void main(String[] args) {
        Due due = new Due();
        fillsUp(due);
        cuts(due);
        keepsTheOrderOfBytes(due);
        due.close("TapeTest");
    }

    private static void fillsUp(Due due) {
        VideoDecoder x = new VideoDecoder();
        for (int i = 1; i <= 3276; i++) {
            due.be("feed " + i, x.feed(i, -1, 0, 1, 2), 20 * i);
        }
        due.thrown("feed without room", IllegalStateException.class, () -> x.feed(0, 0, 0, 0, 0));
        due.be("count 0 when full", x.count(0), 65520);
        due.be("end", x.end(65517), 65517);
        due.thrown("feed with room for 19", IllegalStateException.class, () -> x.feed(0, 0, 0, 0, 0));
        due.be("end", x.end(65516), 65516);
        due.be("feed the last 20", x.feed(0, 0, 0, 0, 0), 65536);
        due.thrown("feed when full", IllegalStateException.class, () -> x.feed(0, 0, 0, 0, 0));
        due.be("end of all", x.end(65536), 65536);
        due.thrown("decode of zeros", UnsupportedOperationException.class, x::decode);
        due.be("count 0 when decoded", x.count(0), 0);
    }

    private static void cuts(Due due) {
        VideoDecoder x = new VideoDecoder();
        due.be("end of nothing", x.end(0), 0);
        due.thrown("end behind nothing", IllegalArgumentException.class, () -> x.end(1));
        x.feed(1, 2, 3, 4, 5);
        due.thrown("end of 21", IllegalArgumentException.class, () -> x.end(21));
        due.thrown("end of -1", IllegalArgumentException.class, () -> x.end(-1));
        due.be("count 0", x.count(0), 20);
        due.be("end of 20", x.end(20), 20);
        due.be("end of 7", x.end(7), 7);
        due.be("count 0", x.count(0), 7);
        due.thrown("end of 8", IllegalArgumentException.class, () -> x.end(8));
        due.be("feed behind 7", x.feed(1, 2, 3, 4, 5), 27);
    }

    private static void keepsTheOrderOfBytes(Due due) {
        VideoDecoder x = new VideoDecoder();
        byte[] frame = FrameWriter.key(8, 8).bits("100").bytes();
        for (int i = 0; i < frame.length; i++) {
            x.feed(frame[i] << 24, 0, 0, 0, 0);
            x.end(i + 1);
        }
        due.be("decode of a frame fed by bytes", x.decode(), 1);
        due.be("its sample", x.sample(0, 0, 7, 7), 128);
    }
}
