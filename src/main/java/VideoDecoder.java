import java.util.Arrays;
import java.util.NoSuchElementException;

/** Decodes moving pictures to the bit, as the project's document promises. */
public final class VideoDecoder {
    private static final int TAPE_ROOM = 65536;
    private static final int FEED_BYTES = 20;
    private static final int SLOTS = 8;
    private static final int CONTEXTS = 4;
    private static final int MODELS = 2941;
    private static final int START_CHANCE = 128;
    private static final int CRC_POLYNOMIAL = 0xEDB88320;

    private static final int LARGEST = 192;
    private static final int LARGEST_CHROMA = LARGEST / 2;
    private static final int LUMA_ROOM = LARGEST * LARGEST;
    private static final int CHROMA_ROOM = LARGEST_CHROMA * LARGEST_CHROMA;
    private static final int UNITS_ACROSS = LARGEST / 8;
    private static final int UNITS_ROOM = UNITS_ACROSS * UNITS_ACROSS;

    // What is kept of a block; the first seventeen are numbered as the face tells them.
    private static final int COLUMN = 0;
    private static final int ROW = 1;
    private static final int WIDE = 2;
    private static final int HIGH = 3;
    private static final int SEGMENT = 4;
    private static final int SKIP = 5;
    private static final int SIZE = 6;
    private static final int MODE = 7;
    private static final int CHROMA = 8;
    private static final int FIRST = 9;
    private static final int SECOND = 10;
    private static final int KIND = 11;
    private static final int VECTOR = 12;
    private static final int KERNEL = 16;
    private static final int TOLD_FACTS = 17;
    private static final int GUESSED = 17;
    private static final int FACTS = 18;

    private static final int KIND_ZERO = 0;
    private static final int KIND_NEAR = 2;
    private static final int KIND_NEW = 3;

    private static final int FEATURE_QUANTISER = 0;
    private static final int FEATURE_LEVEL = 1;
    private static final int FEATURE_REFERENCE = 2;
    private static final int FEATURE_SKIP = 3;

    private static final int KEY = 0;
    private static final int INTRA_ONLY = 1;
    private static final int BY_REFERENCES = 2;

    private final byte[] tape = new byte[TAPE_ROOM];
    private int tapeLength;
    private int lastFault;
    private int faultyFrame = -1;
    private int framesDecoded;
    private int picturesShown;
    private int lastKind = -1;

    // Eight slots, the picture shown last and the one in work: ten can be needed at once.
    private final Picture[] pool = new Picture[SLOTS + 2];
    private final Picture[] slots = new Picture[SLOTS];
    private Picture shown;
    private final int[] contexts = new int[CONTEXTS * MODELS];
    private final int[] crcTable = new int[256];

    private final PlainBits plain = new PlainBits(tape);
    private final Header header = new Header();
    private final Settings settings = new Settings();
    private final Settings pending = new Settings();
    private final Coder coder = new Coder(tape);
    private final Grid grid = new Grid();
    private final Blocks blocks = new Blocks(coder, header, settings, grid);
    private final EdgeFilter filter = new EdgeFilter(settings, grid);

    public VideoDecoder() {
        Arrays.fill(contexts, START_CHANCE);
        for (int i = 0; i < 256; i++) {
            int rest = i;
            for (int bit = 0; bit < 8; bit++) {
                rest = (rest & 1) == 1 ? (rest >>> 1) ^ CRC_POLYNOMIAL : rest >>> 1;
            }
            crcTable[i] = rest;
        }
    }

    public int feed(int a, int b, int c, int d, int e) throws IllegalStateException {
        if (tapeLength + FEED_BYTES > TAPE_ROOM) {
            throw new IllegalStateException();
        }
        append(a);
        append(b);
        append(c);
        append(d);
        append(e);
        return tapeLength;
    }

    public int end(int n) throws IllegalArgumentException {
        if (n < 0 || n > tapeLength) {
            throw new IllegalArgumentException();
        }
        tapeLength = n;
        return n;
    }

    public int decode() throws UnsupportedOperationException {
        int length = tapeLength;
        int shownBefore = picturesShown;
        tapeLength = 0;
        lastFault = 0;
        faultyFrame = -1;
        int index = indexLength(length);
        int frames = index == 0 ? 1 : 1 + (tape[length - 1] & 7);
        if (index > 0 && framesLength(length, index) > length - index) {
            lastFault = 8;
        }
        int from = 0;
        for (int i = 0; i < frames && lastFault == 0; i++) {
            int to = from + (index == 0 ? length : (int) frameLength(length, index, i));
            if (to > from) {
                lastFault = decodeFrame(from, to);
                faultyFrame = lastFault == 0 ? -1 : i;
            }
            from = to;
        }
        if (lastFault != 0) {
            throw new UnsupportedOperationException();
        }
        return picturesShown - shownBefore;
    }

    public int fault(int what) throws IllegalArgumentException {
        if (what < 0 || what > 1) {
            throw new IllegalArgumentException();
        }
        return what == 0 ? lastFault : faultyFrame;
    }

    public int sample(int slot, int plane, int x, int y)
            throws NoSuchElementException, IndexOutOfBoundsException {
        Picture picture = pictureOf(slot);
        if (picture == null) {
            throw new NoSuchElementException();
        }
        if (plane < 0 || plane > 2 || x < 0 || y < 0
                || x >= picture.wide(plane) || y >= picture.high(plane)) {
            throw new IndexOutOfBoundsException();
        }
        return picture.samples[Picture.at(plane, x, y)];
    }

    public int check(int slot, int plane) throws NoSuchElementException, IndexOutOfBoundsException {
        Picture picture = pictureOf(slot);
        if (picture == null) {
            throw new NoSuchElementException();
        }
        if (plane < 0 || plane > 2) {
            throw new IndexOutOfBoundsException();
        }
        int crc = -1;
        for (int y = 0; y < picture.high(plane); y++) {
            int row = Picture.at(plane, 0, y);
            for (int x = 0; x < picture.wide(plane); x++) {
                crc = (crc >>> 8) ^ crcTable[(crc ^ picture.samples[row + x]) & 255];
            }
        }
        return ~crc;
    }

    public int size(int slot, int what) throws NoSuchElementException, IllegalArgumentException {
        Picture picture = pictureOf(slot);
        if (picture == null) {
            throw new NoSuchElementException();
        }
        if (what < 0 || what > 1) {
            throw new IllegalArgumentException();
        }
        return what == 0 ? picture.width : picture.height;
    }

    public int model(int context, int k) throws IndexOutOfBoundsException {
        if (context < 0 || context >= CONTEXTS || k < 0 || k >= MODELS) {
            throw new IndexOutOfBoundsException();
        }
        return contexts[context * MODELS + k];
    }

    public int block(int x, int y, int what)
            throws IndexOutOfBoundsException, IllegalArgumentException {
        int place = grid.placeOf(x, y);
        if (place < 0) {
            throw new IndexOutOfBoundsException();
        }
        if (what < 0 || what >= TOLD_FACTS) {
            throw new IllegalArgumentException();
        }
        return grid.facts[place + what];
    }

    public int count(int what) {
        switch (what) {
            case 0:
                return tapeLength;
            case 1:
                return framesDecoded;
            case 2:
                return picturesShown;
            case 3:
                return grid.blocks;
            case 4:
                return coder.readings;
            case 5:
                return blocks.residue.written;
            case 6:
                return filter.lines;
            case 7:
                return lastKind;
            default:
                return -1;
        }
    }

    private void append(int word) {
        for (int shift = 24; shift >= 0; shift -= 8) {
            tape[tapeLength] = (byte) (word >> shift);
            tapeLength++;
        }
    }

    private Picture pictureOf(int slot) {
        if (slot == -1) {
            return shown;
        }
        return slot >= 0 && slot < SLOTS ? slots[slot] : null;
    }

    /** The bytes of the chunk's index, 0 if it has none. */
    private int indexLength(int length) {
        int marker = length > 0 ? tape[length - 1] & 255 : 0;
        if (marker < 192 || marker > 223) {
            return 0;
        }
        int index = 2 + (1 + ((marker >> 3) & 3)) * (1 + (marker & 7));
        return length >= index && (tape[length - index] & 255) == marker ? index : 0;
    }

    private long frameLength(int length, int index, int frame) {
        int bytes = 1 + ((tape[length - 1] >> 3) & 3);
        int first = length - index + 1 + frame * bytes;
        long sum = 0;
        for (int i = bytes - 1; i >= 0; i--) {
            sum = sum * 256 + (tape[first + i] & 255);
        }
        return sum;
    }

    private long framesLength(int length, int index) {
        int frames = 1 + (tape[length - 1] & 7);
        long sum = 0;
        for (int i = 0; i < frames; i++) {
            sum += frameLength(length, index, i);
        }
        return sum;
    }

    /** Decodes the frame in these bytes of the tape; answers its fault, 0 for none. */
    private int decodeFrame(int from, int to) {
        plain.start(from, to);
        pending.copy(settings);
        header.read(plain, slots, pending, to);
        if (plain.fault != 0) {
            return plain.fault;
        }
        framesDecoded++;
        if (header.again) {
            show(slots[header.againSlot]);
            grid.forgetMotion();
            return 0;
        }
        settings.copy(pending);
        lastKind = header.kind;
        grid.begin(header);
        beginModels(to);
        Picture picture = freePicture();
        picture.begin(header.width, header.height);
        blocks.begin(picture, slots);
        for (int y = 0; y < grid.rows; y += 8) {
            for (int x = 0; x < grid.columns; x += 8) {
                blocks.divide(x, y, 8);
            }
        }
        filter.run(picture);
        keepModels();
        for (int i = 0; i < SLOTS; i++) {
            if (((header.refreshed >> i) & 1) == 1) {
                slots[i] = picture;
            }
        }
        if (header.shown) {
            show(picture);
        }
        return 0;
    }

    private void show(Picture picture) {
        shown = picture;
        picturesShown++;
    }

    private void beginModels(int to) {
        if (header.afresh()) {
            Arrays.fill(contexts, START_CHANCE);
        }
        System.arraycopy(contexts, header.context * MODELS, coder.models, 0, MODELS);
        coder.start(header.second, header.data);
        header.readSecond(coder, settings.lossless());
        coder.changeModels();
        coder.forgetReadings();
        coder.start(header.data, to);
    }

    private void keepModels() {
        if (!header.keep) {
            return;
        }
        int first = header.context * MODELS;
        boolean learn = !header.fixed && !header.resilient;
        for (int k = 0; k < MODELS; k++) {
            contexts[first + k] = learn ? coder.learnt(k, contexts[first + k]) : coder.models[k];
        }
    }

    private Picture freePicture() {
        for (int i = 0; i < pool.length; i++) {
            if (pool[i] == null) {
                pool[i] = new Picture();
                return pool[i];
            }
            if (!isHeld(pool[i])) {
                return pool[i];
            }
        }
        return new Picture();
    }

    private boolean isHeld(Picture picture) {
        boolean held = picture == shown;
        for (int i = 0; i < SLOTS; i++) {
            held = held || slots[i] == picture;
        }
        return held;
    }

    private static int clip(int value) {
        return value < 0 ? 0 : value > 255 ? 255 : value;
    }

    private static int within(int value, int least, int most) {
        return value < least ? least : value > most ? most : value;
    }

    /** 0, 1, 2, 3 for a side of 1, 2, 4, 8 units. */
    private static int rank(int units) {
        return units >= 8 ? 3 : units >= 4 ? 2 : units >= 2 ? 1 : 0;
    }

    /** Three planes in one row, laid out for the largest picture, so that any size can use it again. */
    private static final class Picture {
        int width;
        int height;
        final int[] samples = new int[LUMA_ROOM + 2 * CHROMA_ROOM];

        void begin(int wide, int high) {
            width = wide;
            height = high;
            Arrays.fill(samples, 0);
        }

        int wide(int plane) {
            return plane == 0 ? width : (width + 1) / 2;
        }

        int high(int plane) {
            return plane == 0 ? height : (height + 1) / 2;
        }

        static int stride(int plane) {
            return plane == 0 ? LARGEST : LARGEST_CHROMA;
        }

        static int at(int plane, int x, int y) {
            return plane == 0
                    ? y * LARGEST + x
                    : LUMA_ROOM + (plane - 1) * CHROMA_ROOM + y * LARGEST_CHROMA + x;
        }
    }

    /** The bits of a plain header. The first fault that is met stays; reading goes on with zeros. */
    private static final class PlainBits {
        private final byte[] tape;
        private int position;
        private int limit;
        int fault;

        PlainBits(byte[] tape) {
            this.tape = tape;
        }

        void start(int from, int to) {
            position = from * 8;
            limit = to * 8;
            fault = 0;
        }

        void meet(int what) {
            if (fault == 0) {
                fault = what;
            }
        }

        int number(int width) {
            int value = 0;
            for (int i = 0; i < width; i++) {
                value *= 2;
                if (position < limit) {
                    value += (tape[position >> 3] >> (7 - (position & 7))) & 1;
                    position++;
                } else if (fault == 0) {
                    fault = 1;
                }
            }
            return value;
        }

        boolean flag() {
            return number(1) == 1;
        }

        int signed(int width) {
            int amount = number(width);
            return number(1) == 1 ? -amount : amount;
        }

        int chance() {
            return number(1) == 1 ? Math.max(1, number(8)) : 255;
        }

        int nextByte() {
            return (position + 7) >> 3;
        }
    }

    /** What a frame's two headers say, but for the settings of filter, quantiser and segments. */
    private static final class Header {
        boolean again;
        int againSlot;
        boolean shown;
        boolean resilient;
        int kind;
        int width;
        int height;
        int refreshed;
        final int[] references = new int[3];
        final int[] sides = new int[3];
        boolean fine;
        int kernel;
        boolean keep;
        boolean fixed;
        int context;
        int second;
        int data;
        int transformMode;
        boolean mayDouble;
        boolean doubleByBlock;

        boolean still() {
            return kind != BY_REFERENCES;
        }

        /** Whether the frame starts from nothing that was learnt or told before it. */
        boolean afresh() {
            return still() || resilient;
        }

        void read(PlainBits bits, Picture[] slots, Settings settings, int to) {
            if (bits.number(2) != 2) {
                bits.meet(2);
            }
            again = bits.flag();
            if (again) {
                againSlot = bits.number(3);
                if (slots[againSlot] == null) {
                    bits.meet(3);
                }
                return;
            }
            boolean inter = bits.flag();
            shown = bits.flag();
            resilient = bits.flag();
            kind = KEY;
            refreshed = 255;
            if (inter) {
                kind = bits.flag() ? INTRA_ONLY : BY_REFERENCES;
                refreshed = bits.number(8);
            }
            if (still()) {
                readWidthAndHeight(bits);
            } else {
                readReferences(bits, slots);
            }
            keep = bits.flag();
            fixed = bits.flag();
            context = bits.number(2);
            settings.read(bits, afresh());
            int length = bits.number(16);
            second = bits.nextByte();
            data = second + length;
            if (length == 0 || data >= to) {
                bits.meet(7);
            }
        }

        private void readWidthAndHeight(PlainBits bits) {
            width = bits.number(8) + 1;
            height = bits.number(8) + 1;
            if (width > LARGEST || height > LARGEST) {
                bits.meet(4);
            }
        }

        private void readReferences(PlainBits bits, Picture[] slots) {
            for (int i = 0; i < 3; i++) {
                references[i] = bits.number(3);
                if (slots[references[i]] == null) {
                    bits.meet(3);
                }
                sides[i] = bits.number(1);
            }
            for (int i = 0; i < 3; i++) {
                Picture picture = slots[references[i]];
                if (picture != null) {
                    if (i > 0 && (picture.width != width || picture.height != height)) {
                        bits.meet(5);
                    }
                    width = picture.width;
                    height = picture.height;
                }
            }
            fine = bits.flag();
            kernel = bits.number(2);
            if (kernel == 3) {
                bits.meet(6);
            }
        }

        void readSecond(Coder coder, boolean lossless) {
            transformMode = 0;
            if (!lossless) {
                transformMode = coder.plain(2);
                if (transformMode == 3) {
                    transformMode += coder.plain(1);
                }
            }
            mayDouble = false;
            doubleByBlock = false;
            boolean alike = sides[0] == sides[1] && sides[1] == sides[2];
            if (!still() && !alike) {
                mayDouble = coder.plain(1) == 1;
                doubleByBlock = mayDouble && coder.plain(1) == 1;
            }
        }
    }

    /** Filter, quantiser and segments: what a frame tells of them, and what lasts from frames before. */
    private static final class Settings {
        int level;
        int sharp;
        boolean extrasCount;
        final int[] extras = new int[6];
        int base;
        final int[] deltas = new int[3];
        boolean inUse;
        boolean mapTold;
        boolean guessed;
        final int[] tree = new int[7];
        final int[] guesses = new int[3];
        boolean absolute;
        private final int[] set = new int[32];
        private final int[] values = new int[32];

        void copy(Settings from) {
            level = from.level;
            sharp = from.sharp;
            extrasCount = from.extrasCount;
            System.arraycopy(from.extras, 0, extras, 0, 6);
            base = from.base;
            System.arraycopy(from.deltas, 0, deltas, 0, 3);
            inUse = from.inUse;
            mapTold = from.mapTold;
            guessed = from.guessed;
            System.arraycopy(from.tree, 0, tree, 0, 7);
            System.arraycopy(from.guesses, 0, guesses, 0, 3);
            absolute = from.absolute;
            System.arraycopy(from.set, 0, set, 0, 32);
            System.arraycopy(from.values, 0, values, 0, 32);
        }

        boolean lossless() {
            return base == 0 && deltas[0] == 0 && deltas[1] == 0 && deltas[2] == 0;
        }

        boolean has(int segment, int feature) {
            return inUse && set[segment * 4 + feature] == 1;
        }

        int valueOf(int segment, int feature) {
            return values[segment * 4 + feature];
        }

        void read(PlainBits bits, boolean afresh) {
            if (afresh) {
                forget();
            }
            readFilter(bits);
            base = bits.number(8);
            for (int i = 0; i < 3; i++) {
                deltas[i] = bits.flag() ? bits.signed(4) : 0;
            }
            readSegments(bits);
        }

        private void forget() {
            Arrays.fill(set, 0);
            Arrays.fill(values, 0);
            Arrays.fill(extras, 0);
            extras[0] = 1;
            extras[2] = -1;
            extras[3] = -1;
        }

        private void readFilter(PlainBits bits) {
            level = bits.number(6);
            sharp = bits.number(3);
            extrasCount = bits.flag();
            if (extrasCount && bits.flag()) {
                for (int i = 0; i < 6; i++) {
                    if (bits.flag()) {
                        extras[i] = bits.signed(6);
                    }
                }
            }
        }

        private void readSegments(PlainBits bits) {
            mapTold = false;
            guessed = false;
            inUse = bits.flag();
            if (!inUse) {
                return;
            }
            mapTold = bits.flag();
            if (mapTold) {
                for (int i = 0; i < 7; i++) {
                    tree[i] = bits.chance();
                }
                guessed = bits.flag();
            }
            for (int i = 0; i < 3 && guessed; i++) {
                guesses[i] = bits.chance();
            }
            if (bits.flag()) {
                readFeatures(bits);
            }
        }

        private void readFeatures(PlainBits bits) {
            Arrays.fill(set, 0);
            Arrays.fill(values, 0);
            absolute = bits.flag();
            for (int segment = 0; segment < 8; segment++) {
                if (bits.flag()) {
                    setFeature(segment, FEATURE_QUANTISER, bits.signed(8));
                }
                if (bits.flag()) {
                    setFeature(segment, FEATURE_LEVEL, bits.signed(6));
                }
                if (bits.flag()) {
                    setFeature(segment, FEATURE_REFERENCE, bits.number(2));
                }
                if (bits.flag()) {
                    setFeature(segment, FEATURE_SKIP, 1);
                }
            }
        }

        private void setFeature(int segment, int feature, int value) {
            set[segment * 4 + feature] = 1;
            values[segment * 4 + feature] = value;
        }
    }

    /** The arithmetic decoder with the frame's models. */
    private static final class Coder {
        private final byte[] tape;
        final int[] models = new int[MODELS];
        private final int[] tallies = new int[2 * MODELS];
        int readings;
        private int next;
        private int limit;
        private int held;
        private int heldBits;
        private int range;
        private int value;

        Coder(byte[] tape) {
            this.tape = tape;
        }

        void start(int from, int to) {
            limit = to;
            range = 255;
            value = Math.min(254, tape[from] & 255);
            next = from + 1;
            heldBits = 0;
        }

        void forgetReadings() {
            Arrays.fill(tallies, 0);
            readings = 0;
        }

        int bit(int chance) {
            int split = 1 + (range - 1) * chance / 256;
            int bit = value < split ? 0 : 1;
            if (bit == 0) {
                range = split;
            } else {
                range -= split;
                value -= split;
            }
            for (int i = 0; i < 8 && range < 128; i++) {
                if (heldBits == 0) {
                    held = 0;
                    if (next < limit) {
                        held = tape[next] & 255;
                        next++;
                    }
                    heldBits = 8;
                }
                heldBits--;
                range *= 2;
                value = value * 2 + ((held >> heldBits) & 1);
            }
            return bit;
        }

        int plain(int width) {
            int number = 0;
            for (int i = 0; i < width; i++) {
                number = number * 2 + bit(128);
            }
            return number;
        }

        int read(int k) {
            int bit = bit(models[k]);
            tallies[2 * k + bit]++;
            readings++;
            return bit;
        }

        /** How many ones come, one model behind the other, until a 0 or the most. */
        int ladder(int first, int most) {
            int rung = 0;
            int bit = 1;
            while (rung < most && bit == 1) {
                bit = bit(models[first + rung]);
                tallies[2 * (first + rung) + bit]++;
                readings++;
                rung += bit;
            }
            return rung;
        }

        void changeModels() {
            for (int k = 0; k < MODELS; k++) {
                if (bit(252) == 1) {
                    models[k] = changed(models[k]);
                }
            }
        }

        private int changed(int model) {
            if (plain(1) == 1) {
                return Math.max(1, plain(8));
            }
            int step = plain(4) + 1;
            return within(plain(1) == 1 ? model - step : model + step, 1, 255);
        }

        /** What becomes of a model that was v before the frame, by what it gave in the frame. */
        int learnt(int k, int v) {
            int zeros = tallies[2 * k];
            int n = zeros + tallies[2 * k + 1];
            if (n == 0) {
                return v;
            }
            int w = within((256 * zeros + n / 2) / n, 1, 255);
            int f = 128 * Math.min(n, 20) / 20;
            return (v * (256 - f) + w * f + 128) >> 8;
        }
    }

    /** The units of a frame and their blocks, those of the frame before, and the map of segments. */
    private static final class Grid {
        // A cell is a square of 4 samples of a plane.
        private static final int CELLS_ACROSS = LARGEST / 4;
        private static final int NOT_WRITTEN = 0;
        private static final int WRITTEN = 1;
        private static final int WITH_NUMBERS = 2;

        int width;
        int height;
        int columns;
        int rows;
        int blocks;
        private boolean leavesMotion;
        private boolean hasLastMotion;
        private int[] owners = new int[UNITS_ROOM];
        int[] facts = new int[UNITS_ROOM * FACTS];
        private int[] lastOwners = new int[UNITS_ROOM];
        int[] lastFacts = new int[UNITS_ROOM * FACTS];
        private final int[] map = new int[UNITS_ROOM];
        private final byte[] cells = new byte[3 * CELLS_ACROSS * CELLS_ACROSS];

        void begin(Header header) {
            boolean sameSize = width == header.width && height == header.height;
            hasLastMotion = sameSize && leavesMotion && !header.resilient;
            leavesMotion = header.shown;
            if (!sameSize || header.afresh()) {
                Arrays.fill(map, 0);
            }
            width = header.width;
            height = header.height;
            columns = (width + 7) / 8;
            rows = (height + 7) / 8;
            blocks = 0;
            swapWithLast();
            Arrays.fill(owners, -1);
            Arrays.fill(cells, (byte) NOT_WRITTEN);
        }

        void forgetMotion() {
            leavesMotion = false;
        }

        private void swapWithLast() {
            int[] keptOwners = owners;
            owners = lastOwners;
            lastOwners = keptOwners;
            int[] keptFacts = facts;
            facts = lastFacts;
            lastFacts = keptFacts;
        }

        private boolean isInside(int column, int row) {
            return column >= 0 && row >= 0 && column < columns && row < rows;
        }

        /** Where the facts of a unit's block begin, -1 if it is not there. */
        int placeOf(int column, int row) {
            return isInside(column, row) ? owners[row * UNITS_ACROSS + column] : -1;
        }

        /** The same in the facts of the frame before, -1 if there is no last motion. */
        int lastPlaceOf(int column, int row) {
            return hasLastMotion && isInside(column, row)
                    ? lastOwners[row * UNITS_ACROSS + column] : -1;
        }

        /** Makes room for the facts of a block that is about to be read. */
        int open(int column, int row, int wide, int high) {
            int here = blocks * FACTS;
            blocks++;
            Arrays.fill(facts, here, here + FACTS, 0);
            facts[here + COLUMN] = column;
            facts[here + ROW] = row;
            facts[here + WIDE] = wide;
            facts[here + HIGH] = high;
            return here;
        }

        void settle(int here) {
            fillUnits(owners, here, here);
        }

        void setMap(int here, int segment) {
            fillUnits(map, here, segment);
        }

        private void fillUnits(int[] units, int here, int value) {
            int right = Math.min(columns, facts[here + COLUMN] + facts[here + WIDE]);
            int bottom = Math.min(rows, facts[here + ROW] + facts[here + HIGH]);
            for (int row = facts[here + ROW]; row < bottom; row++) {
                for (int column = facts[here + COLUMN]; column < right; column++) {
                    units[row * UNITS_ACROSS + column] = value;
                }
            }
        }

        int leastInMap(int here) {
            int right = Math.min(columns, facts[here + COLUMN] + facts[here + WIDE]);
            int bottom = Math.min(rows, facts[here + ROW] + facts[here + HIGH]);
            int least = 7;
            for (int row = facts[here + ROW]; row < bottom; row++) {
                for (int column = facts[here + COLUMN]; column < right; column++) {
                    least = Math.min(least, map[row * UNITS_ACROSS + column]);
                }
            }
            return least;
        }

        /** The size of a block's transforms in a plane, 0 .. 3 for 4 .. 32. */
        int sizeIn(int plane, int here) {
            int lesserSide = Math.min(facts[here + WIDE], facts[here + HIGH]);
            return plane == 0 ? facts[here + SIZE] : Math.min(facts[here + SIZE], rank(lesserSide));
        }

        void markWritten(int plane, int x, int y, int wide, int high, boolean hasNumbers) {
            byte mark = (byte) (hasNumbers ? WITH_NUMBERS : WRITTEN);
            for (int row = y / 4; row < (y + high) / 4; row++) {
                int first = (plane * CELLS_ACROSS + row) * CELLS_ACROSS + x / 4;
                Arrays.fill(cells, first, first + wide / 4, mark);
            }
        }

        /** What became of a sample's cell in this frame. */
        int markAt(int plane, int x, int y) {
            if (x < 0 || y < 0 || x >= LARGEST || y >= LARGEST) {
                return NOT_WRITTEN;
            }
            return cells[(plane * CELLS_ACROSS + y / 4) * CELLS_ACROSS + x / 4];
        }

        /** How many of the cells above and on the left of a square have numbers. */
        int cellsWithNumbers(int plane, int x, int y) {
            int n = markAt(plane, x, y - 1) == WITH_NUMBERS ? 1 : 0;
            return markAt(plane, x - 1, y) == WITH_NUMBERS ? n + 1 : n;
        }
    }

    /** Divides the squares of a frame into blocks, and reads and paints each. */
    private static final class Blocks {
        private static final int PARTITIONS = 0;
        private static final int SKIPS = 60;
        private static final int SIZES = 63;
        private static final int STILL_MODES = 75;
        private static final int MODES = 975;
        private static final int CHROMAS = 1011;
        private static final int OTHERS = 1101;
        private static final int DOUBLES = 1104;
        private static final int PAIRS = 1107;
        private static final int REFERENCES = 1110;
        private static final int KINDS = 1116;
        private static final int KERNELS = 1125;
        private static final int JOINTS = 1128;
        private static final int VECTORS_Y = 1131;
        private static final int VECTORS_X = 1158;

        private final Coder coder;
        private final Header header;
        private final Settings settings;
        private final Grid grid;
        final Residue residue;
        private final StillPrediction still;
        private final Motion motion;
        private Picture picture;
        private int here;
        private int above;
        private int left;

        Blocks(Coder coder, Header header, Settings settings, Grid grid) {
            this.coder = coder;
            this.header = header;
            this.settings = settings;
            this.grid = grid;
            residue = new Residue(coder, settings, grid);
            still = new StillPrediction(grid);
            motion = new Motion(header, grid);
        }

        void begin(Picture target, Picture[] slots) {
            picture = target;
            residue.written = 0;
            motion.begin(slots);
        }

        /** Squares, sides and places are in units here; the side is halved until it is one unit. */
        private void divide(int x, int y, int side) {
            if (picture == null || x >= grid.columns || y >= grid.rows) {
                return;
            }
            int half = side / 2;
            if (half == 0) {
                take(x, y, 1, 1);
                return;
            }
            boolean hasLower = y + half < grid.rows;
            boolean hasRight = x + half < grid.columns;
            int k = PARTITIONS + 5 * (4 * (3 - rank(side)) + narrowerNeighbours(x, y, side));
            if (hasLower && hasRight && coder.read(k) == 0) {
                take(x, y, side, side);
            } else if (hasLower && hasRight && coder.read(k + 1) == 0) {
                take(x, y, side, half);
                take(x, y + half, side, half);
            } else if (hasLower && hasRight && coder.read(k + 2) == 0) {
                take(x, y, half, side);
                take(x + half, y, half, side);
            } else if (!hasLower && hasRight && coder.read(k + 3) == 0) {
                take(x, y, side, half);
            } else if (hasLower && !hasRight && coder.read(k + 4) == 0) {
                take(x, y, half, side);
            } else {
                divide(x, y, half);
                divide(x + half, y, half);
                divide(x, y + half, half);
                divide(x + half, y + half, half);
            }
        }

        private int narrowerNeighbours(int x, int y, int side) {
            int upper = grid.placeOf(x, y - 1);
            int lefter = grid.placeOf(x - 1, y);
            int n = upper >= 0 && grid.facts[upper + WIDE] < side ? 1 : 0;
            return lefter >= 0 && grid.facts[lefter + HIGH] < side ? n + 2 : n;
        }

        private void take(int x, int y, int wide, int high) {
            above = grid.placeOf(x, y - 1);
            left = grid.placeOf(x - 1, y);
            here = grid.open(x, y, wide, high);
            int segment = readSegment();
            put(SEGMENT, segment);
            put(SKIP, settings.has(segment, FEATURE_SKIP) ? 1 : coder.read(SKIPS + alike(SKIP, 1)));
            boolean other = !header.still() && readOther(segment);
            put(SIZE, readSize(other));
            if (other) {
                readReferences(segment);
                readKind(segment);
                readVectors();
            } else {
                readModes();
            }
            grid.settle(here);
            residue.chooseQuantisers(segment);
            if (other) {
                motion.predict(picture, here);
            }
            for (int plane = 0; plane < 3; plane++) {
                paint(plane, other);
            }
        }

        private void put(int fact, int value) {
            grid.facts[here + fact] = value;
        }

        private int fact(int which) {
            return grid.facts[here + which];
        }

        /** How many of the neighbours above and on the left are there and have this value. */
        private int alike(int fact, int value) {
            int n = above >= 0 && grid.facts[above + fact] == value ? 1 : 0;
            return left >= 0 && grid.facts[left + fact] == value ? n + 1 : n;
        }

        private int readSegment() {
            if (!settings.inUse) {
                return 0;
            }
            int segment = grid.leastInMap(here);
            if (settings.mapTold) {
                boolean mayGuess = settings.guessed && !header.still();
                if (mayGuess && coder.bit(settings.guesses[alike(GUESSED, 1)]) == 1) {
                    put(GUESSED, 1);
                } else {
                    segment = readTree();
                }
            }
            grid.setMap(here, segment);
            return segment;
        }

        private int readTree() {
            int high = coder.bit(settings.tree[0]);
            int middle = coder.bit(settings.tree[1 + high]);
            int low = coder.bit(settings.tree[3 + 2 * high + middle]);
            return 4 * high + 2 * middle + low;
        }

        private boolean readOther(int segment) {
            if (settings.has(segment, FEATURE_REFERENCE)) {
                return settings.valueOf(segment, FEATURE_REFERENCE) != 0;
            }
            return coder.read(OTHERS + alike(MODE, -1)) == 1;
        }

        private int readSize(boolean other) {
            int most = Math.min(3, 1 + rank(Math.min(fact(WIDE), fact(HIGH))));
            most = Math.min(most, header.transformMode);
            if (header.transformMode < 4 || fact(SKIP) == 1 && other) {
                return most;
            }
            int n = sizeOf(above, most) + sizeOf(left, most) > most ? 1 : 0;
            int offset = most == 1 ? 0 : most == 2 ? 1 : 3;
            return coder.ladder(SIZES + 6 * n + offset, most);
        }

        private int sizeOf(int neighbour, int most) {
            if (neighbour < 0) {
                return most;
            }
            boolean bare = grid.facts[neighbour + SKIP] == 1 && grid.facts[neighbour + MODE] < 0;
            return bare ? most : grid.facts[neighbour + SIZE];
        }

        private void readModes() {
            int models = MODES + 9 * rank(Math.min(fact(WIDE), fact(HIGH)));
            if (header.still()) {
                models = STILL_MODES + 9 * (10 * modeOf(above) + modeOf(left));
            }
            int mode = coder.ladder(models, 9);
            put(MODE, mode);
            put(CHROMA, coder.ladder(CHROMAS + 9 * mode, 9));
            put(FIRST, -1);
            put(SECOND, -1);
            put(KIND, -1);
            put(KERNEL, -1);
        }

        private int modeOf(int neighbour) {
            return neighbour < 0 ? 0 : Math.max(0, grid.facts[neighbour + MODE]);
        }

        private void readReferences(int segment) {
            put(MODE, -1);
            put(CHROMA, -1);
            put(SECOND, -1);
            if (settings.has(segment, FEATURE_REFERENCE)) {
                put(FIRST, settings.valueOf(segment, FEATURE_REFERENCE) - 1);
                return;
            }
            boolean isDouble = header.mayDouble;
            if (header.doubleByBlock) {
                // A pair's second reference is always 2, and no single block has a second.
                isDouble = coder.read(DOUBLES + alike(SECOND, 2)) == 1;
            }
            int n = alike(FIRST, 0);
            if (isDouble) {
                put(FIRST, coder.read(PAIRS + n));
                put(SECOND, 2);
            } else {
                put(FIRST, coder.ladder(REFERENCES + 2 * n, 2));
            }
        }

        private void readKind(int segment) {
            int kind = KIND_ZERO;
            if (!settings.has(segment, FEATURE_SKIP)) {
                kind = coder.ladder(KINDS + 3 * alike(KIND, KIND_NEW), 3);
            }
            put(KIND, kind);
            put(KERNEL, header.kernel == 2 ? coder.read(KERNELS + alike(KERNEL, 1)) : header.kernel);
        }

        private void readVectors() {
            int kind = fact(KIND);
            for (int i = 0; i < 2 && kind != KIND_ZERO; i++) {
                if (fact(FIRST + i) >= 0) {
                    motion.collect(here, fact(FIRST + i));
                    int which = kind == KIND_NEAR ? 2 : 0;
                    int x = motion.vectors[which];
                    int y = motion.vectors[which + 1];
                    if (kind == KIND_NEW) {
                        boolean finest = header.fine && Motion.isShort(x, y);
                        int joint = coder.ladder(JOINTS, 3);
                        y += joint >= 2 ? readDifference(VECTORS_Y, finest) : 0;
                        x += joint == 1 || joint == 3 ? readDifference(VECTORS_X, finest) : 0;
                    }
                    put(VECTOR + 2 * i, x);
                    put(VECTOR + 2 * i + 1, y);
                }
            }
        }

        private int readDifference(int v, boolean finest) {
            boolean negative = coder.read(v) == 1;
            int c = coder.ladder(v + 1, 7);
            int whole = 0;
            if (c == 0) {
                whole = coder.read(v + 8);
            }
            for (int j = 0; j < c; j++) {
                whole += coder.read(v + 9 + j) << j;
            }
            int q = c == 0 ? v + 16 + 3 * whole : v + 22;
            int half = coder.read(q);
            int quarter = 2 * half + coder.read(q + 1 + half);
            int eighth = finest ? coder.read(c == 0 ? v + 25 : v + 26) : 1;
            int amount = (c == 0 ? 0 : 8 << c) + 8 * whole + 2 * quarter + eighth + 1;
            return negative ? -amount : amount;
        }

        /** Predicts (if not from references) and completes the block's squares in a plane. */
        private void paint(int plane, boolean other) {
            int unit = plane == 0 ? 8 : 4;
            int size = grid.sizeIn(plane, here);
            int side = 4 << size;
            int right = unit * Math.min(grid.columns, fact(COLUMN) + fact(WIDE));
            int bottom = unit * Math.min(grid.rows, fact(ROW) + fact(HIGH));
            int mode = plane == 0 ? fact(MODE) : fact(CHROMA);
            for (int y = unit * fact(ROW); y < bottom; y += side) {
                for (int x = unit * fact(COLUMN); x < right; x += side) {
                    residue.place(plane, x, y, size);
                    boolean hasNumbers = fact(SKIP) == 0 && residue.read(mode);
                    grid.markWritten(plane, x, y, side, side, hasNumbers);
                    if (!other) {
                        still.gather(picture, plane, x, y, side);
                        still.predict(picture, mode);
                    }
                    if (hasNumbers) {
                        residue.addTo(picture, other);
                    }
                }
            }
        }
    }

    /** The numbers of a square and the transform that makes differences of them. */
    private static final class Residue {
        private static final int NUMBERS = 1185;
        private static final int TAILS = 2913;
        private static final int TAIL_MOST = 14;
        private static final int SCANS = 1520;
        private static final int FLAT_SCANS = 1360;
        private static final int HIGH_SCANS = 1440;
        private static final int[] GRADES = {0, 1, 2, 3, 3, 4, 4, 4, 4, 4, 4};
        private static final int[] BANDS = {0, 1, 1, 2, 2, 2, 3, 3, 3, 3, 4, 4, 4, 4, 4, 4, 4, 4, 4, 4, 4};
        private static final int[] WAVE = {
            64, 90, 90, 90, 89, 88, 87, 85, 83, 82, 80, 78, 75, 73, 70, 67, 64,
            61, 57, 54, 50, 46, 43, 38, 36, 31, 25, 22, 18, 13, 9, 4, 0};
        private static final int[] SLOPES = {
            29, 55, 74, 84, 74, 74, 0, -74, 84, -29, -74, 55, 55, -84, 74, -29};

        private final Coder coder;
        private final Settings settings;
        private final Grid grid;
        int written;
        private final int[] scans = new int[SCANS];
        private final int[] waves = new int[1024];
        private final int[] amounts = new int[1024];
        private final int[] numbers = new int[1024];
        private final int[] columns = new int[1024];
        private final int[] quantisers = new int[4];
        private boolean lossless;
        private int plane;
        private int x;
        private int y;
        private int size;
        private int lastRow;
        private int lastColumn;

        Residue(Coder coder, Settings settings, Grid grid) {
            this.coder = coder;
            this.settings = settings;
            this.grid = grid;
            fillScan(scans, scanOf(0, 0), 4, 1, 1);
            fillScan(scans, scanOf(0, 1), 8, 1, 1);
            fillScan(scans, scanOf(0, 2), 16, 1, 1);
            fillScan(scans, scanOf(0, 3), 32, 1, 1);
            fillScan(scans, scanOf(1, 0), 4, 1, 4);
            fillScan(scans, scanOf(1, 1), 8, 1, 4);
            fillScan(scans, scanOf(2, 0), 4, 4, 1);
            fillScan(scans, scanOf(2, 1), 8, 4, 1);
            for (int k = 0; k < 32; k++) {
                for (int n = 0; n < 32; n++) {
                    waves[k * 32 + n] = k == 0 ? 64 : wave((2 * n + 1) * k % 128);
                }
            }
        }

        private static int wave(int angle) {
            int half = angle > 64 ? 128 - angle : angle;
            return half > 32 ? -WAVE[64 - half] : WAVE[half];
        }

        private static int scanOf(int order, int size) {
            if (order == 1) {
                return FLAT_SCANS + 16 * size;
            }
            if (order == 2) {
                return HIGH_SCANS + 16 * size;
            }
            return size == 0 ? 0 : size == 1 ? 16 : size == 2 ? 80 : 336;
        }

        private static void fillScan(int[] scans, int first, int side, int weightX, int weightY) {
            int at = first;
            for (int key = 0; key <= (weightX + weightY) * (side - 1); key++) {
                for (int y = 0; y < side; y++) {
                    int rest = key - weightY * y;
                    if (rest >= 0 && rest % weightX == 0 && rest / weightX < side) {
                        scans[at] = y * side + rest / weightX;
                        at++;
                    }
                }
            }
        }

        void chooseQuantisers(int segment) {
            lossless = settings.lossless();
            int index = settings.base;
            if (settings.has(segment, FEATURE_QUANTISER)) {
                int told = settings.valueOf(segment, FEATURE_QUANTISER);
                index = clip(settings.absolute ? told : index + told);
            }
            int first = clip(index + settings.deltas[0]);
            int chromaFirst = clip(index + settings.deltas[1]);
            int chromaOther = clip(index + settings.deltas[2]);
            quantisers[0] = lossless ? 1 : 4 + first + first * first / 128;
            quantisers[1] = lossless ? 1 : 4 + index + index * index / 64;
            quantisers[2] = lossless ? 1 : 4 + chromaFirst + chromaFirst * chromaFirst / 128;
            quantisers[3] = lossless ? 1 : 4 + chromaOther + chromaOther * chromaOther / 64;
        }

        /** Says which square the calls that follow are about. */
        void place(int plane, int x, int y, int size) {
            this.plane = plane;
            this.x = x;
            this.y = y;
            this.size = size;
        }

        /** Reads the square's numbers; answers whether it has any. The mode is -1 for other pictures. */
        boolean read(int mode) {
            int chroma = plane == 0 ? 0 : 1;
            int group = NUMBERS + 108 * ((mode < 0 ? 1 : 0) + 2 * (chroma + 2 * size));
            int scan = scanOf(orderFor(mode), size);
            int total = 16 << (2 * size);
            boolean behindZero = false;
            for (int i = 0; i < total; i++) {
                int at = scans[scan + i];
                int c = i == 0 ? grid.cellsWithNumbers(plane, x, y) : gradeAround(at);
                int m = group + 18 * (i > 20 ? 5 : BANDS[i]) + 3 * c;
                if (!behindZero && coder.read(m) == 0) {
                    return i > 0;
                }
                if (i == 0) {
                    clearNumbers(total);
                }
                int amount = coder.read(m + 1);
                if (amount == 1 && coder.read(m + 2) == 1) {
                    int u = coder.ladder(TAILS + TAIL_MOST * chroma, TAIL_MOST);
                    amount = 1 + (1 << u) + coder.plain(u);
                }
                amounts[at] = amount;
                behindZero = amount == 0;
                if (amount != 0) {
                    putNumber(at, coder.plain(1) == 1 ? -amount : amount);
                }
            }
            return true;
        }

        private int orderFor(int mode) {
            if (plane != 0 || size > 1) {
                return 0;
            }
            if (mode == 1 || mode == 5 || mode == 8) {
                return 1;
            }
            return mode == 2 || mode == 6 || mode == 7 ? 2 : 0;
        }

        private int gradeAround(int at) {
            int side = 4 << size;
            int upper = at >= side ? amounts[at - side] : -1;
            int lefter = at % side > 0 ? amounts[at - 1] : -1;
            return (1 + grade(upper < 0 ? lefter : upper) + grade(lefter < 0 ? upper : lefter)) / 2;
        }

        private static int grade(int amount) {
            return amount > 10 ? 5 : amount < 0 ? 0 : GRADES[amount];
        }

        private void clearNumbers(int total) {
            Arrays.fill(numbers, 0, total, 0);
            lastRow = 0;
            lastColumn = 0;
        }

        private void putNumber(int at, int number) {
            int quantiser = quantisers[(plane == 0 ? 0 : 2) + (at == 0 ? 0 : 1)];
            numbers[at] = within(number * quantiser, -32768, 32767);
            lastRow = Math.max(lastRow, at >> (size + 2));
            lastColumn = Math.max(lastColumn, at & ((4 << size) - 1));
            written++;
        }

        /** Adds what the numbers mean to the square's prediction. */
        void addTo(Picture picture, boolean other) {
            if (lossless) {
                turnExactly();
            } else if (plane == 0 && !other && size == 0) {
                turnBy(SLOPES, 4, 1);
            } else {
                turnBy(waves, 32, 8 >> size);
            }
            int side = 4 << size;
            for (int row = 0; row < side; row++) {
                int at = Picture.at(plane, x, y + row);
                for (int column = 0; column < side; column++) {
                    int sum = picture.samples[at + column] + numbers[row * side + column];
                    picture.samples[at + column] = clip(sum);
                }
            }
        }

        /** Row k of the transform begins at k * step * across; sums end at the last number that is not 0. */
        private void turnBy(int[] rows, int across, int step) {
            int side = 4 << size;
            for (int column = 0; column <= lastColumn; column++) {
                for (int row = 0; row < side; row++) {
                    int sum = 64;
                    for (int k = 0; k <= lastRow; k++) {
                        sum += rows[k * step * across + row] * numbers[k * side + column];
                    }
                    columns[row * side + column] = within(sum >> 7, -32768, 32767);
                }
            }
            for (int row = 0; row < side; row++) {
                for (int column = 0; column < side; column++) {
                    int sum = 2048;
                    for (int k = 0; k <= lastColumn; k++) {
                        sum += rows[k * step * across + column] * columns[row * side + k];
                    }
                    numbers[row * side + column] = sum >> 12;
                }
            }
        }

        private void turnExactly() {
            for (int row = 0; row < 4; row++) {
                turnFour(4 * row, 1);
            }
            for (int column = 0; column < 4; column++) {
                turnFour(column, 4);
            }
        }

        private void turnFour(int first, int step) {
            int a = numbers[first];
            int b = numbers[first + step];
            int c = numbers[first + 2 * step];
            int d = numbers[first + 3 * step];
            a += b;
            d -= c;
            int e = (a - d) >> 1;
            b = e - b;
            c = e - c;
            numbers[first] = a - b;
            numbers[first + step] = b;
            numbers[first + 2 * step] = c;
            numbers[first + 3 * step] = d + c;
        }
    }

    /** Prediction of a square from the picture itself. */
    private static final class StillPrediction {
        // Round the corner: left samples upwards, the corner, the samples above to the right.
        private static final int CORNER = 64;

        private final Grid grid;
        private final int[] edge = new int[CORNER + 1 + 64];
        private int plane;
        private int left;
        private int top;
        private int side;
        private boolean knowsAbove;
        private boolean knowsLeft;

        StillPrediction(Grid grid) {
            this.grid = grid;
        }

        /** Says which square is predicted next, and takes the samples round it. */
        void gather(Picture picture, int plane, int x, int y, int side) {
            this.plane = plane;
            left = x;
            top = y;
            this.side = side;
            gatherAbove(picture.samples);
            gatherLeft(picture.samples);
            edge[CORNER] = knowsAbove ? 129 : 127;
            if (grid.markAt(plane, x - 1, y - 1) != Grid.NOT_WRITTEN) {
                edge[CORNER] = picture.samples[Picture.at(plane, x - 1, y - 1)];
            }
        }

        private void gatherAbove(int[] samples) {
            int known = 0;
            while (known < 2 * side && grid.markAt(plane, left + known, top - 1) != Grid.NOT_WRITTEN) {
                known += 4;
            }
            knowsAbove = known > 0;
            int last = 127;
            for (int j = 0; j < 2 * side; j++) {
                last = j < known ? samples[Picture.at(plane, left + j, top - 1)] : last;
                edge[CORNER + 1 + j] = last;
            }
        }

        /** D207 looks below the square, where its last sample goes on. */
        private void gatherLeft(int[] samples) {
            int known = 0;
            while (known < side && grid.markAt(plane, left - 1, top + known) != Grid.NOT_WRITTEN) {
                known += 4;
            }
            knowsLeft = known > 0;
            int last = 129;
            for (int i = 0; i < 2 * side; i++) {
                last = i < known ? samples[Picture.at(plane, left - 1, top + i)] : last;
                edge[CORNER - 1 - i] = last;
            }
        }

        void predict(Picture picture, int mode) {
            int mean = mode == 0 ? mean() : 0;
            for (int y = 0; y < side; y++) {
                int row = Picture.at(plane, left, top + y);
                for (int x = 0; x < side; x++) {
                    picture.samples[row + x] = mode == 0 ? mean : predicted(mode, x, y);
                }
            }
        }

        private int mean() {
            if (!knowsAbove && !knowsLeft) {
                return 128;
            }
            int sum = 0;
            for (int i = 0; i < side; i++) {
                sum += (knowsAbove ? edge[CORNER + 1 + i] : 0) + (knowsLeft ? edge[CORNER - 1 - i] : 0);
            }
            int n = knowsAbove && knowsLeft ? 2 * side : side;
            return (sum + n / 2) / n;
        }

        private int predicted(int mode, int x, int y) {
            int v;
            switch (mode) {
                case 1:
                    return edge[CORNER + 1 + x];
                case 2:
                    return edge[CORNER - 1 - y];
                case 3:
                    return x + y == 2 * side - 2 ? edge[CORNER + 2 * side] : mean3(x + y + 2);
                case 4:
                    return mean3(x - y);
                case 5:
                    v = 2 * x - y;
                    return v >= 0 && v % 2 == 0 ? mean2(v / 2) : mean3(v < 0 ? v + 1 : (v + 1) / 2);
                case 6:
                    v = 2 * y - x;
                    return v >= 0 && v % 2 == 0 ? mean2(-v / 2 - 1) : mean3(v < 0 ? -v - 1 : -(v + 1) / 2);
                case 7:
                    v = x / 2 + y;
                    return x % 2 == 0 ? mean2(-v - 2) : mean3(-v - 2);
                case 8:
                    v = y / 2 + x;
                    return y % 2 == 0 ? mean2(v + 1) : mean3(v + 2);
                default:
                    return clip(edge[CORNER - 1 - y] + edge[CORNER + 1 + x] - edge[CORNER]);
            }
        }

        /** The mean of the edge's places z and z + 1, 0 being the corner. */
        private int mean2(int z) {
            return (edge[CORNER + z] + edge[CORNER + z + 1] + 1) >> 1;
        }

        /** The weighed mean round the edge's place z. */
        private int mean3(int z) {
            return (edge[CORNER + z - 1] + 2 * edge[CORNER + z] + edge[CORNER + z + 1] + 2) >> 2;
        }
    }

    /** Vectors found round a block, and prediction of a block from other pictures. */
    private static final class Motion {
        private static final int MOST = 64;
        private static final int TAPS = 8;
        private static final int[] SHARP_TAPS = {
            0, 0, 0, 128, 0, 0, 0, 0,
            0, 1, -5, 126, 8, -3, 1, 0,
            -1, 3, -10, 122, 18, -6, 2, 0,
            -1, 4, -13, 118, 27, -9, 3, -1,
            -1, 4, -16, 112, 37, -11, 4, -1,
            -1, 5, -18, 105, 48, -14, 4, -1,
            -1, 5, -19, 97, 58, -16, 5, -1,
            -1, 6, -19, 88, 68, -18, 5, -1,
            -1, 6, -19, 78, 78, -19, 6, -1};

        private final Header header;
        private final Grid grid;
        private final Picture[] references = new Picture[3];
        final int[] vectors = new int[4];
        private int found;
        private final int[] taps = new int[2 * 16 * TAPS];
        private final int[] line = new int[MOST + TAPS];
        private final int[] rows = new int[(MOST + TAPS) * MOST];
        private int plane;
        private int left;
        private int top;
        private int wide;
        private int high;

        Motion(Header header, Grid grid) {
            this.header = header;
            this.grid = grid;
            for (int f = 0; f < 16; f++) {
                for (int i = 0; i < TAPS; i++) {
                    int mirrored = (16 - f) * TAPS + 7 - i;
                    taps[f * TAPS + i] = SHARP_TAPS[f <= 8 ? f * TAPS + i : mirrored];
                }
                taps[(16 + f) * TAPS + 3] = 128 - 8 * f;
                taps[(16 + f) * TAPS + 4] = 8 * f;
            }
        }

        void begin(Picture[] slots) {
            for (int i = 0; i < 3; i++) {
                references[i] = slots[header.references[i]];
            }
        }

        static boolean isShort(int x, int y) {
            return Math.abs(x) < 64 && Math.abs(y) < 64;
        }

        /** Finds NEAREST and NEAR of a block for a reference: vectors 0, 1 and 2, 3. */
        void collect(int here, int reference) {
            found = 0;
            Arrays.fill(vectors, 0);
            int column = grid.facts[here + COLUMN];
            int row = grid.facts[here + ROW];
            int last = grid.lastPlaceOf(column, row);
            for (int pass = 0; pass < 2; pass++) {
                for (int i = 0; i < 8 && found < 2; i++) {
                    int place = grid.placeOf(column + placeColumn(here, i), row + placeRow(here, i));
                    offer(grid.facts, place, reference, pass == 0);
                }
                offer(grid.lastFacts, last, reference, pass == 0);
            }
            for (int i = 0; i < 4; i += 2) {
                if (!header.fine || !isShort(vectors[i], vectors[i + 1])) {
                    vectors[i] -= vectors[i] % 2;
                    vectors[i + 1] -= vectors[i + 1] % 2;
                }
                vectors[i] = hold(vectors[i], 8 * column, 8 * grid.facts[here + WIDE], grid.width);
                vectors[i + 1] = hold(vectors[i + 1], 8 * row, 8 * grid.facts[here + HIGH], grid.height);
            }
        }

        private int placeColumn(int here, int i) {
            switch (i) {
                case 0:
                case 5:
                    return 0;
                case 2:
                    return grid.facts[here + WIDE] - 1;
                case 6:
                case 7:
                    return -2;
                default:
                    return -1;
            }
        }

        private int placeRow(int here, int i) {
            switch (i) {
                case 1:
                case 6:
                    return 0;
                case 3:
                    return grid.facts[here + HIGH] - 1;
                case 5:
                case 7:
                    return -2;
                default:
                    return -1;
            }
        }

        /** Takes from a block, if it is there, the vectors of the same reference, or those of others. */
        private void offer(int[] facts, int place, int reference, boolean same) {
            for (int i = 0; i < 2 && place >= 0; i++) {
                int its = facts[place + FIRST + i];
                if (its >= 0 && (its == reference) == same) {
                    int turn = header.sides[its] == header.sides[reference] ? 1 : -1;
                    add(turn * facts[place + VECTOR + 2 * i], turn * facts[place + VECTOR + 2 * i + 1]);
                }
            }
        }

        private void add(int x, int y) {
            if (found == 0 || found == 1 && (x != vectors[0] || y != vectors[1])) {
                vectors[2 * found] = x;
                vectors[2 * found + 1] = y;
                found++;
            }
        }

        private static int hold(int value, int first, int length, int pictureLength) {
            return within(value, -8 * (first + length + 16), 8 * (pictureLength + 16 - first));
        }

        /** Paints a whole block in all planes. */
        void predict(Picture target, int here) {
            int[] facts = grid.facts;
            for (int p = 0; p < 3; p++) {
                int unit = p == 0 ? 8 : 4;
                plane = p;
                left = unit * facts[here + COLUMN];
                top = unit * facts[here + ROW];
                wide = unit * facts[here + WIDE];
                high = unit * facts[here + HIGH];
                fetch(target, facts[here + FIRST], here + VECTOR, facts[here + KERNEL], false);
                if (facts[here + SECOND] >= 0) {
                    fetch(target, facts[here + SECOND], here + VECTOR + 2, facts[here + KERNEL], true);
                }
                grid.markWritten(p, left, top, wide, high, false);
            }
        }

        private void fetch(Picture target, int reference, int vector, int kernel, boolean mix) {
            Picture from = references[reference];
            if (from == null) {
                return;
            }
            int scale = plane == 0 ? 2 : 1;
            int u = 16 * left + scale * grid.facts[vector];
            int v = 16 * top + scale * grid.facts[vector + 1];
            filterRows(from, u >> 4, v >> 4, (16 * kernel + (u & 15)) * TAPS);
            filterColumns(target, (16 * kernel + (v & 15)) * TAPS, mix);
        }

        private void filterRows(Picture from, int x, int y, int first) {
            int right = from.wide(plane) - 1;
            int bottom = from.high(plane) - 1;
            for (int j = 0; j < high + TAPS - 1; j++) {
                int row = Picture.at(plane, 0, within(y + j - 3, 0, bottom));
                for (int i = 0; i < wide + TAPS - 1; i++) {
                    line[i] = from.samples[row + within(x + i - 3, 0, right)];
                }
                for (int i = 0; i < wide; i++) {
                    int sum = 64;
                    for (int t = 0; t < TAPS; t++) {
                        sum += taps[first + t] * line[i + t];
                    }
                    rows[j * MOST + i] = clip(sum >> 7);
                }
            }
        }

        private void filterColumns(Picture target, int first, boolean mix) {
            for (int j = 0; j < high; j++) {
                int row = Picture.at(plane, left, top + j);
                for (int i = 0; i < wide; i++) {
                    int sum = 64;
                    for (int t = 0; t < TAPS; t++) {
                        sum += taps[first + t] * rows[(j + t) * MOST + i];
                    }
                    int value = clip(sum >> 7);
                    target.samples[row + i] = mix ? (target.samples[row + i] + value + 1) >> 1 : value;
                }
            }
        }
    }

    /** Smooths the edges of transforms and blocks. */
    private static final class EdgeFilter {
        private final Settings settings;
        private final Grid grid;
        int lines;
        private final int[] levels = new int[UNITS_ROOM];
        private final int[] old = new int[16];
        private int[] samples;
        private int level;
        private int inner;
        private int outer;
        private boolean changed;

        EdgeFilter(Settings settings, Grid grid) {
            this.settings = settings;
            this.grid = grid;
            samples = old;
        }

        void run(Picture picture) {
            lines = 0;
            if (settings.level == 0) {
                return;
            }
            samples = picture.samples;
            for (int i = 0; i < grid.blocks; i++) {
                levels[i] = levelOf(i * FACTS);
            }
            for (int plane = 0; plane < 3; plane++) {
                filterPlane(plane, true);
                filterPlane(plane, false);
            }
        }

        private int levelOf(int here) {
            int segment = grid.facts[here + SEGMENT];
            int result = settings.level;
            if (settings.has(segment, FEATURE_LEVEL)) {
                int told = settings.valueOf(segment, FEATURE_LEVEL);
                result = within(settings.absolute ? told : result + told, 0, 63);
            }
            if (!settings.extrasCount || result == 0) {
                return result;
            }
            int scale = result < 32 ? 1 : 2;
            int first = grid.facts[here + FIRST];
            result += scale * settings.extras[1 + first];
            if (first >= 0) {
                result += scale * settings.extras[grid.facts[here + KIND] == KIND_ZERO ? 4 : 5];
            }
            return within(result, 0, 63);
        }

        private void filterPlane(int plane, boolean upright) {
            int squares = plane == 0 ? 2 : 1;
            int along = upright ? 1 : Picture.stride(plane);
            int down = upright ? Picture.stride(plane) : 1;
            for (int row = 0; row < squares * grid.rows; row++) {
                for (int column = 0; column < squares * grid.columns; column++) {
                    int here = grid.placeOf(column / squares, row / squares);
                    int side = 4 << grid.sizeIn(plane, here);
                    if (isEdge(here, upright ? column : row, upright ? COLUMN : ROW, squares, side)) {
                        setLimits(levels[here / FACTS]);
                        int first = Picture.at(plane, 4 * column, 4 * row);
                        for (int i = 0; i < 4 && level > 0; i++) {
                            filterLine(first + i * down, along, side);
                        }
                    }
                }
            }
        }

        private boolean isEdge(int here, int square, int start, int squares, int side) {
            if (square == 0 || 4 * square % side != 0) {
                return false;
            }
            boolean bare = grid.facts[here + SKIP] == 1 && grid.facts[here + MODE] < 0;
            return !bare || square == squares * grid.facts[here + start];
        }

        private void setLimits(int l) {
            level = l;
            inner = l >> (settings.sharp > 4 ? 2 : settings.sharp > 0 ? 1 : 0);
            if (settings.sharp > 0) {
                inner = Math.min(inner, 9 - settings.sharp);
            }
            inner = Math.max(inner, 1);
            outer = 2 * (l + 2) + inner;
        }

        /** The line across an edge; at is its first sample behind the edge. */
        private void filterLine(int at, int step, int side) {
            for (int k = 0; k < 3; k++) {
                int before = at - (k + 1) * step;
                int behind = at + k * step;
                if (Math.abs(samples[before] - samples[before - step]) > inner
                        || Math.abs(samples[behind] - samples[behind + step]) > inner) {
                    return;
                }
            }
            int gap = Math.abs(samples[at - step] - samples[at]);
            if (2 * gap + Math.abs(samples[at - 2 * step] - samples[at + step]) / 2 > outer) {
                return;
            }
            changed = false;
            if (side < 8 || !isEven(at, step, 1)) {
                smoothLittle(at, step);
            } else {
                smoothMuch(at, step, side >= 16 && isEven(at, step, 4) ? 7 : 3);
            }
            lines += changed ? 1 : 0;
        }

        /** Whether the samples from the given place on (1 .. 3 or 4 .. 7) are near those at the edge. */
        private boolean isEven(int at, int step, int from) {
            for (int k = from; k <= (from == 1 ? 3 : 7); k++) {
                if (Math.abs(samples[at - (k + 1) * step] - samples[at - step]) > 1
                        || Math.abs(samples[at + k * step] - samples[at]) > 1) {
                    return false;
                }
            }
            return true;
        }

        private void put(int at, int value) {
            changed = changed || samples[at] != value;
            samples[at] = value;
        }

        private void smoothMuch(int at, int step, int n) {
            int most = 2 * n + 1;
            int first = at - (n + 1) * step;
            for (int i = 0; i <= most; i++) {
                old[i] = samples[first + i * step];
            }
            for (int k = 1; k < most; k++) {
                int sum = old[k];
                for (int i = k - n; i <= k + n; i++) {
                    sum += old[within(i, 0, most)];
                }
                put(first + k * step, n == 7 ? (sum + 8) >> 4 : (sum + 4) >> 3);
            }
        }

        private void smoothLittle(int at, int step) {
            int p1 = samples[at - 2 * step] - 128;
            int p0 = samples[at - step] - 128;
            int q0 = samples[at] - 128;
            int q1 = samples[at + step] - 128;
            int most = level >> 4;
            boolean steep = Math.abs(p1 - p0) > most || Math.abs(q1 - q0) > most;
            int f = held(steep ? held(p1 - q1) + 3 * (q0 - p0) : 3 * (q0 - p0));
            int f1 = held(f + 4) >> 3;
            int f2 = held(f + 3) >> 3;
            put(at, held(q0 - f1) + 128);
            put(at - step, held(p0 + f2) + 128);
            if (!steep) {
                int half = (f1 + 1) >> 1;
                put(at + step, held(q1 - half) + 128);
                put(at - 2 * step, held(p1 + half) + 128);
            }
        }

        private static int held(int value) {
            return within(value, -128, 127);
        }
    }
}
