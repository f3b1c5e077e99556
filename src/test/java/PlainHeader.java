/** The plain header of a frame, read in the document's order by PlainDecoder; a fault ends it at once. */
final class PlainHeader {
    /** A fault of the document. */
    static final class Fault extends RuntimeException {
        private static final long serialVersionUID = 1;
        final int number;

        Fault(int number) {
            this.number = number;
        }
    }

    private final byte[] bytes;
    private int at;
    int again = -1;
    boolean inter;
    boolean shown;
    boolean resilient;
    boolean intraOnly;
    int refreshed = 255;
    int w;
    int h;
    final int[] references = new int[3];
    final int[] sides = new int[3];
    boolean fine;
    int kernel;
    boolean keep;
    boolean fixed;
    int context;
    int level;
    int sharp;
    boolean extrasCount;
    int[] extras = {1, 0, -1, -1, 0, 0};
    int base;
    final int[] deltas = new int[3];
    boolean inUse;
    boolean mapTold;
    final int[] tree = new int[7];
    boolean guessed;
    final int[] guesses = new int[3];
    Integer[][] features = new Integer[8][4];
    boolean absolute;
    int second;
    int data;

    /** Reads the header; the frame before it, null if there was none, leaves features and extras. */
    PlainHeader(byte[] bytes, PlainDecoder.Picture[] slots, PlainHeader before) {
        this.bytes = bytes;
        meet(2, n(2) != 2);
        if (is()) {
            again = n(3);
            meet(3, slots[again] == null);
            return;
        }
        inter = is();
        shown = is();
        resilient = is();
        if (inter) {
            intraOnly = is();
            refreshed = n(8);
        }
        if (still()) {
            w = n(8) + 1;
            h = n(8) + 1;
            meet(4, w > 192 || h > 192);
        } else {
            readReferences(slots);
        }
        keep = is();
        fixed = is();
        context = n(2);
        if (!afresh() && before != null) {
            extras = before.extras.clone();
            features = before.features;
            absolute = before.absolute;
        }
        readFilter();
        readQuantiser();
        readSegments();
        int length = n(16);
        second = (at + 7) / 8;
        data = second + length;
        meet(7, length == 0 || data + 1 > bytes.length);
    }

    boolean still() {
        return !inter || intraOnly;
    }

    boolean afresh() {
        return still() || resilient;
    }

    boolean lossless() {
        return base == 0 && deltas[0] == 0 && deltas[1] == 0 && deltas[2] == 0;
    }

    /** A feature of a segment, null if it has none or if segments are not in use. */
    Integer feature(int segment, int which) {
        return inUse ? features[segment][which] : null;
    }

    private static void meet(int fault, boolean met) {
        if (met) {
            throw new Fault(fault);
        }
    }

    private int n(int width) {
        int out = 0;
        for (int i = 0; i < width; i++) {
            meet(1, at >= 8 * bytes.length);
            out = 2 * out + (bytes[at / 8] >> 7 - at % 8 & 1);
            at++;
        }
        return out;
    }

    private boolean is() {
        return n(1) == 1;
    }

    private int signed(int width) {
        int amount = n(width);
        return is() ? -amount : amount;
    }

    private void readReferences(PlainDecoder.Picture[] slots) {
        for (int i = 0; i < 3; i++) {
            references[i] = n(3);
            meet(3, slots[references[i]] == null);
            sides[i] = n(1);
        }
        w = slots[references[0]].w;
        h = slots[references[0]].h;
        for (int slot : references) {
            meet(5, slots[slot].w != w || slots[slot].h != h);
        }
        fine = is();
        kernel = n(2);
        meet(6, kernel == 3);
    }

    private void readFilter() {
        level = n(6);
        sharp = n(3);
        extrasCount = is();
        if (extrasCount && is()) {
            for (int i = 0; i < 6; i++) {
                extras[i] = is() ? signed(6) : extras[i];
            }
        }
    }

    private void readQuantiser() {
        base = n(8);
        for (int i = 0; i < 3; i++) {
            deltas[i] = is() ? signed(4) : 0;
        }
    }

    private void readSegments() {
        inUse = is();
        mapTold = inUse && is();
        if (mapTold) {
            readChances(tree);
            guessed = is();
        }
        if (guessed) {
            readChances(guesses);
        }
        if (inUse && is()) {
            features = new Integer[8][4];
            absolute = is();
            for (Integer[] feature : features) {
                feature[0] = is() ? Integer.valueOf(signed(8)) : null;
                feature[1] = is() ? Integer.valueOf(signed(6)) : null;
                feature[2] = is() ? Integer.valueOf(n(2)) : null;
                feature[3] = is() ? Integer.valueOf(1) : null;
            }
        }
    }

    private void readChances(int[] chances) {
        for (int i = 0; i < chances.length; i++) {
            chances[i] = is() ? Math.max(1, n(8)) : 255;
        }
    }
}
