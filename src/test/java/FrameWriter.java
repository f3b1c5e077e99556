import java.io.ByteArrayOutputStream;
import java.util.TreeMap;

/** Writes a frame; the fields are what its headers tell. */
final class FrameWriter {
    boolean inter;
    boolean shown = true;
    boolean resilient;
    boolean intraOnly;
    int refreshed = 255;
    int width;
    int height;
    int[] references = {0, 0, 0};
    int[] sides = {0, 0, 0};
    boolean fine;
    int kernel;
    boolean keep;
    boolean fixed;
    int context;
    int level;
    int sharp;
    boolean extrasCount;
    Integer[] extras;
    int base = 255;
    int[] deltas = {0, 0, 0};
    boolean inUse;
    int[] tree;
    int[] guesses;
    boolean featuresTold;
    boolean absolute;
    final Integer[][] features = new Integer[8][4];
    int transformMode;
    int doubling;
    final TreeMap<Integer, Integer> models = new TreeMap<>();
    final TreeMap<Integer, Integer> modelSteps = new TreeMap<>();
    final CodeWriter data = new CodeWriter();
    Integer secondLength;
    private final StringBuilder plain = new StringBuilder();

    static FrameWriter key(int width, int height) {
        FrameWriter frame = new FrameWriter();
        frame.width = width;
        frame.height = height;
        return frame;
    }

    static FrameWriter inter() {
        FrameWriter frame = new FrameWriter();
        frame.inter = true;
        return frame;
    }

    static byte[] again(int slot) {
        return new byte[] {(byte) (0xA0 | slot << 2)};
    }

    FrameWriter bits(String bits) {
        data.bits(bits);
        return this;
    }

    byte[] bytes() {
        byte[] second = second();
        plain.setLength(0);
        put(2, 2);
        put(0, 1);
        put(inter);
        put(shown);
        put(resilient);
        if (inter) {
            put(intraOnly);
            put(refreshed, 8);
        }
        if (!inter || intraOnly) {
            put(width - 1, 8);
            put(height - 1, 8);
        } else {
            for (int i = 0; i < 3; i++) {
                put(references[i], 3);
                put(sides[i], 1);
            }
            put(fine);
            put(kernel, 2);
        }
        put(keep);
        put(fixed);
        put(context, 2);
        putFilter();
        put(base, 8);
        for (int delta : deltas) {
            putSigned(delta == 0 ? null : delta, 4);
        }
        putSegments();
        put(secondLength == null ? second.length : secondLength, 16);
        while (plain.length() % 8 != 0) {
            plain.append('0');
        }
        ByteArrayOutputStream out = new ByteArrayOutputStream();
        for (int i = 0; i < plain.length(); i += 8) {
            out.write(Integer.parseInt(plain.substring(i, i + 8), 2));
        }
        out.writeBytes(second);
        out.writeBytes(data.bytes());
        return out.toByteArray();
    }

    private byte[] second() {
        CodeWriter code = new CodeWriter();
        boolean lossless = base == 0 && deltas[0] == 0 && deltas[1] == 0 && deltas[2] == 0;
        if (!lossless) {
            code.number(Math.min(3, transformMode), 2);
            if (transformMode >= 3) {
                code.number(transformMode - 3, 1);
            }
        }
        boolean alike = sides[0] == sides[1] && sides[1] == sides[2];
        if (inter && !intraOnly && !alike) {
            code.number(doubling == 0 ? 0 : 1, 1);
            if (doubling != 0) {
                code.number(doubling - 1, 1);
            }
        }
        for (int k = 0; k < 2941; k++) {
            Integer value = models.get(k);
            Integer step = modelSteps.get(k);
            code.bit(value == null && step == null ? 0 : 1, 252);
            if (value != null) {
                code.number(1, 1).number(value, 8);
            } else if (step != null) {
                code.number(0, 1).number(Math.abs(step) - 1, 4).number(step < 0 ? 1 : 0, 1);
            }
        }
        return code.bytes();
    }

    private void putFilter() {
        put(level, 6);
        put(sharp, 3);
        put(extrasCount);
        if (extrasCount) {
            put(extras != null);
            for (int i = 0; extras != null && i < 6; i++) {
                putSigned(extras[i], 6);
            }
        }
    }

    private void putSegments() {
        put(inUse);
        if (!inUse) {
            return;
        }
        put(tree != null);
        if (tree != null) {
            putChances(tree);
            put(guesses != null);
        }
        if (guesses != null) {
            putChances(guesses);
        }
        put(featuresTold);
        if (featuresTold) {
            put(absolute);
            for (Integer[] segment : features) {
                putSigned(segment[0], 8);
                putSigned(segment[1], 6);
                put(segment[2] != null);
                if (segment[2] != null) {
                    put(segment[2], 2);
                }
                put(segment[3] != null);
            }
        }
    }

    private void putChances(int[] chances) {
        for (int chance : chances) {
            put(chance != 255);
            if (chance != 255) {
                put(chance, 8);
            }
        }
    }

    private void put(boolean flag) {
        plain.append(flag ? '1' : '0');
    }

    private void put(int value, int width) {
        for (int i = width - 1; i >= 0; i--) {
            plain.append((value >> i & 1) == 1 ? '1' : '0');
        }
    }

    private void putSigned(Integer value, int width) {
        put(value != null);
        if (value != null) {
            put(Math.abs(value), width);
            put(value < 0);
        }
    }
}
