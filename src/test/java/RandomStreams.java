import java.util.ArrayList;
import java.util.Arrays;
import java.util.List;
import java.util.Random;

/** Makes chunks of frames whose headers are drawn and whose data is noise: all of it can be decoded. */
final class RandomStreams {
    // Where rows of models begin; a frame may set some rows to one value, so that rare choices come often.
    private static final int[] ROWS = {
        0, 60, 63, 75, 300, 600, 975, 1011, 1101, 1104, 1107, 1110, 1116, 1125, 1128, 1131, 1185, 1600, 2100, 2913, 2941};

    private final Random random;
    private int width;
    private int height;

    RandomStreams(long seed) {
        random = new Random(seed);
    }

    List<byte[]> chunks() {
        List<byte[]> out = new ArrayList<>();
        int n = 3 + random.nextInt(7);
        for (int i = 0; i < n; i++) {
            if (i > 0 && chance(25)) {
                out.add(indexed());
            } else {
                out.add(frame(i == 0));
            }
        }
        return out;
    }

    private boolean chance(int percent) {
        return random.nextInt(100) < percent;
    }

    private int pick(int... of) {
        return of[random.nextInt(of.length)];
    }

    private byte[] indexed() {
        byte[][] frames = new byte[1 + random.nextInt(8)][];
        for (int i = 0; i < frames.length; i++) {
            frames[i] = chance(10) ? new byte[0] : frame(false);
        }
        return Calls.chunk(pick(2, 3, 4), frames);
    }

    private byte[] frame(boolean key) {
        if (!key && chance(5)) {
            return FrameWriter.again(random.nextInt(8));
        }
        FrameWriter frame = new FrameWriter();
        frame.inter = !key && chance(90);
        frame.shown = chance(85);
        frame.resilient = chance(10);
        frame.intraOnly = frame.inter && chance(5);
        frame.refreshed = pick(0, 1, 2, 4, 255, random.nextInt(256), random.nextInt(256));
        if (key || chance(20)) {
            int most = pick(20, 40, 80, 80, 130, 192);
            width = 1 + random.nextInt(most);
            height = 1 + random.nextInt(most);
        }
        frame.width = width;
        frame.height = height;
        for (int i = 0; i < 3; i++) {
            frame.references[i] = random.nextInt(8);
            frame.sides[i] = random.nextInt(2);
        }
        frame.fine = chance(70);
        frame.kernel = pick(0, 1, 2, 2);
        frame.keep = chance(85);
        frame.fixed = chance(20);
        frame.context = pick(0, 0, 1, 2, 3);
        frame.transformMode = pick(0, 1, 2, 3, 4, 4, 4);
        frame.doubling = random.nextInt(3);
        drawFilter(frame);
        frame.base = pick(0, 0, 1, 3, 10, 30, 60, 120, 255, random.nextInt(256));
        for (int i = 0; i < 3; i++) {
            frame.deltas[i] = chance(frame.base == 0 ? 10 : 40) ? random.nextInt(31) - 15 : 0;
        }
        if (chance(50)) {
            drawSegments(frame);
        }
        drawModels(frame);
        return withNoise(frame.bytes());
    }

    private void drawFilter(FrameWriter frame) {
        frame.level = pick(0, 5, 20, 40, 63, random.nextInt(64));
        frame.sharp = pick(0, 0, random.nextInt(8));
        frame.extrasCount = chance(50);
        if (chance(60)) {
            frame.extras = new Integer[6];
            for (int i = 0; i < 6; i++) {
                frame.extras[i] = chance(50) ? Integer.valueOf(random.nextInt(41) - 20) : null;
            }
        }
    }

    private int[] chances(int n) {
        int[] out = new int[n];
        for (int i = 0; i < n; i++) {
            out[i] = pick(0, 1, 60, 128, 200, 255, random.nextInt(256));
        }
        return out;
    }

    private void drawSegments(FrameWriter frame) {
        frame.inUse = true;
        if (chance(60)) {
            frame.tree = chances(7);
            frame.guesses = chance(60) ? chances(3) : null;
        }
        frame.featuresTold = chance(50);
        frame.absolute = chance(50);
        for (Integer[] segment : frame.features) {
            segment[0] = chance(40) ? Integer.valueOf(random.nextInt(511) - 255) : null;
            segment[1] = chance(40) ? Integer.valueOf(random.nextInt(127) - 63) : null;
            segment[2] = chance(25) ? Integer.valueOf(random.nextInt(4)) : null;
            segment[3] = chance(15) ? Integer.valueOf(1) : null;
        }
    }

    private void drawModels(FrameWriter frame) {
        for (int i = 0; i + 1 < ROWS.length; i++) {
            if (chance(15)) {
                int value = pick(1, 20, 60, 90, 200, 250, random.nextInt(256));
                for (int k = ROWS[i]; k < ROWS[i + 1]; k++) {
                    frame.models.put(k, value);
                }
            }
        }
        for (int i = 0; i < 10; i++) {
            frame.modelSteps.put(random.nextInt(2941), pick(1, -1, 16, -16, 7));
        }
    }

    /** The data is noise, sometimes thin; now and then the frame is cut or has a wrong bit. */
    private byte[] withNoise(byte[] frame) {
        int head = frame.length - new CodeWriter().bytes().length;
        byte[] out = Arrays.copyOf(frame, head + pick(1, 10, 100, 300, 800, 1500));
        int kind = random.nextInt(3);
        for (int i = head; i < out.length; i++) {
            out[i] = (byte) (kind == 0 ? random.nextInt(256) & random.nextInt(256)
                    : kind == 1 ? pick(0, 0, 255, random.nextInt(256)) : random.nextInt(256));
        }
        if (chance(3)) {
            return Arrays.copyOf(out, 1 + random.nextInt(out.length));
        }
        if (chance(3)) {
            out[random.nextInt(10) % out.length] ^= (byte) (1 << random.nextInt(8));
        }
        return out;
    }
}
