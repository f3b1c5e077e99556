import java.util.ArrayList;
import java.util.List;

/** Frames of which the last is written block by block, all bits with chance 128, with the vectors one wants. */
final class Scene {
    boolean fine = true;
    int[] sides = {0, 0, 0};
    int doubling;
    boolean resilient;
    private final List<byte[]> before = new ArrayList<>();
    private final StringBuilder bits = new StringBuilder();

    Scene after(byte[] frame) {
        before.add(frame);
        return this;
    }

    Scene bits(String more) {
        bits.append(more);
        return this;
    }

    private FrameWriter frame(String more) {
        FrameWriter frame = FrameWriter.inter();
        frame.fine = fine;
        frame.sides = sides;
        frame.doubling = doubling;
        frame.resilient = resilient;
        return frame.bits(bits + more);
    }

    byte[] bytes() {
        return frame("").bytes();
    }

    VideoDecoder decode(String more) {
        VideoDecoder x = new VideoDecoder();
        for (byte[] one : before) {
            Calls.decode(x, one);
        }
        Calls.decode(x, frame(more));
        return x;
    }

    /** A block with SKIP that is not OTHER. */
    Scene own() {
        return bits("1 0 0 0 ");
    }

    private String single(int reference) {
        return "1 1 " + (doubling == 2 ? "0 " : "") + new String[] {"0 ", "10 ", "11 "}[reference];
    }

    /** A block of 8 x 8 at this unit that is to have this vector: NEW, from what is NEAREST there. */
    Scene other(int column, int row, int reference, int x, int y) {
        VideoDecoder trial = decode(single(reference) + "10");
        int nearX = trial.block(column, row, 12);
        int nearY = trial.block(column, row, 13);
        boolean finest = fine && Math.abs(nearX) < 64 && Math.abs(nearY) < 64;
        return bits(single(reference) + "111" + difference(x - nearX, y - nearY, finest));
    }

    /** The same with REFERENCES 0 (or 1) and 2. */
    Scene pair(int column, int row, int first, int... vectors) {
        String head = "1 1 1 " + first;
        VideoDecoder trial = decode(head + "10");
        StringBuilder out = new StringBuilder(head + "111");
        for (int i = 0; i < 2; i++) {
            int nearX = trial.block(column, row, 12 + 2 * i);
            int nearY = trial.block(column, row, 13 + 2 * i);
            boolean finest = fine && Math.abs(nearX) < 64 && Math.abs(nearY) < 64;
            out.append(difference(vectors[2 * i] - nearX, vectors[2 * i + 1] - nearY, finest));
        }
        return bits(out.toString());
    }

    static String difference(int x, int y, boolean finest) {
        String joint = x == 0 && y == 0 ? "0" : y == 0 ? "10" : x == 0 ? "110" : "111";
        return joint + amount(y, finest) + amount(x, finest) + " ";
    }

    private static String amount(int value, boolean finest) {
        if (value == 0) {
            return "";
        }
        int rest = Math.abs(value) - 1;
        if (!finest && rest % 2 == 0) {
            throw new IllegalArgumentException("an odd amount cannot be told");
        }
        int c = rest < 16 ? 0 : 28 - Integer.numberOfLeadingZeros(rest);
        StringBuilder out = new StringBuilder(value < 0 ? "1" : "0");
        out.append("1".repeat(c)).append(c < 7 ? "0" : "");
        int whole = (rest - (c == 0 ? 0 : 8 << c)) / 8;
        for (int j = 0; j < Math.max(1, c); j++) {
            out.append(whole >> j & 1);
        }
        out.append(rest >> 2 & 1).append(rest >> 1 & 1);
        return out.append(finest ? "" + (rest & 1) : "").toString();
    }
}
