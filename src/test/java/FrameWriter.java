import java.io.ByteArrayOutputStream;
import java.util.Arrays;
import java.util.TreeMap;

/** Writes a frame; the fields are what its headers tell. It knows what each model must learn from it. */
final class FrameWriter {
    static final int MODELS = 2941;

    boolean inter;
    boolean shown = true;
    boolean resilient;
    boolean intraOnly;
    int refreshed = 255;
    int width;
    int height;
    int[] references = {0, 0, 0};
    int[] sides = {0, 0, 0};
    boolean fine;
    int kernel;
    boolean keep;
    boolean fixed;
    int context;
    int level;
    int sharp;
    boolean extrasCount;
    Integer[] extras;
    int base = 255;
    int[] deltas = {0, 0, 0};
    boolean tellsZeroDeltas;
    boolean inUse;
    int[] tree;
    int[] guesses;
    boolean featuresTold;
    boolean absolute;
    final Integer[][] features = new Integer[8][4];
    int transformMode;
    int doubling;
    final TreeMap<Integer, Integer> models = new TreeMap<>();
    final TreeMap<Integer, Integer> modelSteps = new TreeMap<>();
    final CodeWriter data = new CodeWriter();
    Integer secondLength;
    byte[] rawSecond;
    byte[] rawData;
    private final StringBuilder plain = new StringBuilder();
    private final int[] before = new int[MODELS];
    private final int[] zeros = new int[MODELS];
    private final int[] ones = new int[MODELS];
    private int readings;
    private int headerBits;
    private int headerLength;

    FrameWriter() {
        Arrays.fill(before, 128);
    }

    static FrameWriter key(int width, int height) {
        FrameWriter frame = new FrameWriter();
        frame.width = width;
        frame.height = height;
        return frame;
    }

    static FrameWriter inter() {
        FrameWriter frame = new FrameWriter();
        frame.inter = true;
        return frame;
    }

    static byte[] again(int slot) {
        return new byte[] {(byte) (0xA0 | slot << 2)};
    }

    /** An INTRA ONLY frame. */
    static FrameWriter intra(int width, int height) {
        FrameWriter frame = key(width, height);
        frame.inter = true;
        frame.intraOnly = true;
        return frame;
    }

    FrameWriter bits(String bits) {
        data.bits(bits);
        return this;
    }

    /** Takes the models that the frame starts from out of its context. */
    FrameWriter startFrom(VideoDecoder decoder) {
        for (int k = 0; k < MODELS; k++) {
            before[k] = decoder.model(context, k);
        }
        return this;
    }

    FrameWriter keeping() {
        keep = true;
        return this;
    }

    /** Tells each model a chance of its own, so that a bit read with another model goes wrong. */
    FrameWriter spread() {
        for (int k = 0; k < MODELS; k++) {
            models.put(k, 60 + k * 37 % 137);
        }
        return this;
    }

    private int chance(int k) {
        Integer value = models.get(k);
        if (value != null) {
            return Math.max(1, value);
        }
        Integer step = modelSteps.get(k);
        return Math.max(1, Math.min(255, before[k] + (step == null ? 0 : step)));
    }

    /** Bits read with models one behind the other, the first with model k. */
    FrameWriter m(int k, String bits) {
        int at = k;
        for (char c : bits.toCharArray()) {
            if (c == '0' || c == '1') {
                data.bit(c - '0', chance(at));
                zeros[at] += '1' - c;
                ones[at] += c - '0';
                readings++;
                at++;
            }
        }
        return this;
    }

    /** So many ones, and a 0 behind them unless they are the most. */
    FrameWriter ladder(int first, int rung, int most) {
        return m(first, "1".repeat(rung) + (rung < most ? "0" : ""));
    }

    FrameWriter b(int chance, int bit) {
        data.bit(bit, chance);
        return this;
    }

    FrameWriter l(int width, int value) {
        data.number(value, width);
        return this;
    }

    int readings() {
        return readings;
    }

    /** What model k must be in the context behind this frame, if it is kept and learns. */
    int learnt(int k) {
        int n = zeros[k] + ones[k];
        if (n == 0) {
            return before[k];
        }
        int w = Math.max(1, Math.min(255, (256 * zeros[k] + n / 2) / n));
        int f = 128 * Math.min(n, 20) / 20;
        return before[k] * (256 - f) + w * f + 128 >> 8;
    }

    byte[] bytes() {
        byte[] second = rawSecond == null ? second() : rawSecond;
        plain.setLength(0);
        put(2, 2);
        put(0, 1);
        put(inter);
        put(shown);
        put(resilient);
        if (inter) {
            put(intraOnly);
            put(refreshed, 8);
        }
        if (!inter || intraOnly) {
            put(width - 1, 8);
            put(height - 1, 8);
        } else {
            for (int i = 0; i < 3; i++) {
                put(references[i], 3);
                put(sides[i], 1);
            }
            put(fine);
            put(kernel, 2);
        }
        put(keep);
        put(fixed);
        put(context, 2);
        putFilter();
        put(base, 8);
        for (int delta : deltas) {
            putSigned(delta == 0 && !tellsZeroDeltas ? null : delta, 4);
        }
        putSegments();
        put(secondLength == null ? second.length : secondLength, 16);
        headerBits = plain.length();
        while (plain.length() % 8 != 0) {
            plain.append('1');
        }
        ByteArrayOutputStream out = new ByteArrayOutputStream();
        for (int i = 0; i < plain.length(); i += 8) {
            out.write(Integer.parseInt(plain.substring(i, i + 8), 2));
        }
        out.writeBytes(second);
        headerLength = out.size() - second.length;
        out.writeBytes(rawData == null ? data.bytes() : rawData);
        return out.toByteArray();
    }

    int headerBits() {
        return headerBits;
    }

    /** The bytes of the plain header that was written last. */
    int headerLength() {
        return headerLength;
    }

    private byte[] second() {
        CodeWriter code = new CodeWriter();
        boolean lossless = base == 0 && deltas[0] == 0 && deltas[1] == 0 && deltas[2] == 0;
        if (!lossless) {
            code.number(Math.min(3, transformMode), 2);
            if (transformMode >= 3) {
                code.number(transformMode - 3, 1);
            }
        }
        boolean alike = sides[0] == sides[1] && sides[1] == sides[2];
        if (inter && !intraOnly && !alike) {
            code.number(doubling == 0 ? 0 : 1, 1);
            if (doubling != 0) {
                code.number(doubling - 1, 1);
            }
        }
        for (int k = 0; k < MODELS; k++) {
            Integer value = models.get(k);
            Integer step = modelSteps.get(k);
            code.bit(value == null && step == null ? 0 : 1, 252);
            if (value != null) {
                code.number(1, 1).number(value, 8);
            } else if (step != null) {
                code.number(0, 1).number(Math.abs(step) - 1, 4).number(step < 0 ? 1 : 0, 1);
            }
        }
        return code.bytes();
    }

    private void putFilter() {
        put(level, 6);
        put(sharp, 3);
        put(extrasCount);
        if (extrasCount) {
            put(extras != null);
            for (int i = 0; extras != null && i < 6; i++) {
                putSigned(extras[i], 6);
            }
        }
    }

    private void putSegments() {
        put(inUse);
        if (!inUse) {
            return;
        }
        put(tree != null);
        if (tree != null) {
            putChances(tree);
            put(guesses != null);
        }
        if (guesses != null) {
            putChances(guesses);
        }
        put(featuresTold);
        if (featuresTold) {
            put(absolute);
            for (Integer[] segment : features) {
                putSigned(segment[0], 8);
                putSigned(segment[1], 6);
                put(segment[2] != null);
                if (segment[2] != null) {
                    put(segment[2], 2);
                }
                put(segment[3] != null);
            }
        }
    }

    private void putChances(int[] chances) {
        for (int chance : chances) {
            put(chance != 255);
            if (chance != 255) {
                put(chance, 8);
            }
        }
    }

    private void put(boolean flag) {
        plain.append(flag ? '1' : '0');
    }

    private void put(int value, int width) {
        for (int i = width - 1; i >= 0; i--) {
            plain.append((value >> i & 1) == 1 ? '1' : '0');
        }
    }

    private void putSigned(Integer value, int width) {
        put(value != null);
        if (value != null) {
            put(Math.abs(value), width);
            put(value < 0);
        }
    }
}
