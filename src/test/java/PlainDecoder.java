import java.util.ArrayList;
import java.util.Arrays;
import java.util.List;

/**
 * A second decoder, which takes the document at its word, sample by sample, with no thought of speed or
 * room. It shares no code with the program, so a slip must be made twice to be missed; but what the words
 * leave open it reads as the program does.
 */
final class PlainDecoder {
    private static final int MODELS = 2941;
    private static final int[][] TAPS = {
        {0, 0, 0, 128, 0, 0, 0, 0}, {0, 1, -5, 126, 8, -3, 1, 0}, {-1, 3, -10, 122, 18, -6, 2, 0},
        {-1, 4, -13, 118, 27, -9, 3, -1}, {-1, 4, -16, 112, 37, -11, 4, -1}, {-1, 5, -18, 105, 48, -14, 4, -1},
        {-1, 5, -19, 97, 58, -16, 5, -1}, {-1, 6, -19, 88, 68, -18, 5, -1}, {-1, 6, -19, 78, 78, -19, 6, -1}};

    /** Three fields of samples, [y][x]. */
    static final class Picture {
        final int w;
        final int h;
        final int[][][] planes = new int[3][][];

        Picture(int w, int h) {
            this.w = w;
            this.h = h;
            for (int p = 0; p < 3; p++) {
                int by = p == 0 ? 64 : 32;
                planes[p] = new int[(high(p) + by - 1) / by * by][(wide(p) + by - 1) / by * by];
            }
        }

        int wide(int p) {
            return p == 0 ? w : (w + 1) / 2;
        }

        int high(int p) {
            return p == 0 ? h : (h + 1) / 2;
        }

        String state() {
            StringBuilder out = new StringBuilder().append(w).append(' ').append(h);
            for (int p = 0; p < 3; p++) {
                byte[] bytes = new byte[wide(p) * high(p)];
                for (int i = 0; i < bytes.length; i++) {
                    bytes[i] = (byte) planes[p][i / wide(p)][i % wide(p)];
                }
                out.append(' ').append(Calls.crc(bytes));
            }
            return out.toString();
        }
    }

    /** Places and sides are in units. */
    private static final class Block {
        final int x;
        final int y;
        final int w;
        final int h;
        int segment;
        boolean guessedRight;
        boolean skip;
        boolean other;
        int size;
        int mode = -1;
        int chroma = -1;
        int kind = -1;
        int kernel = -1;
        final List<Integer> references = new ArrayList<>();
        final List<int[]> vectors = new ArrayList<>();

        Block(int x, int y, int w, int h) {
            this.x = x;
            this.y = y;
            this.w = w;
            this.h = h;
        }

        boolean bare() {
            return skip && other;
        }

        boolean firstIsZero() {
            return other && references.get(0) == 0;
        }

        int sideIn(int p) {
            return p == 0 ? 4 << size : Math.min(4 << size, 8 * Math.min(w, h) / 2);
        }

        int[] told() {
            boolean two = references.size() == 2;
            int[] first = other ? vectors.get(0) : new int[2];
            int[] second = two ? vectors.get(1) : new int[2];
            return new int[] {x, y, w, h, segment, skip ? 1 : 0, size, mode, chroma, other ? references.get(0) : -1,
                two ? references.get(1) : -1, kind, first[0], first[1], second[0], second[1], kernel};
        }
    }

    /** DECODING of a row of bytes. */
    private static final class Row {
        private final byte[] bytes;
        private int at = 8;
        private int range = 255;
        private int value;

        Row(byte[] bytes) {
            this.bytes = bytes;
            value = Math.min(254, bytes[0] & 255);
        }

        int b(int p) {
            int s = 1 + (range - 1) * p / 256;
            int bit = value < s ? 0 : 1;
            range = bit == 0 ? s : range - s;
            value = bit == 0 ? value : value - s;
            while (range < 128) {
                range *= 2;
                value = 2 * value + (at < 8 * bytes.length ? bytes[at / 8] >> 7 - at % 8 & 1 : 0);
                at++;
            }
            return bit;
        }

        int l(int n) {
            int out = 0;
            for (int i = 0; i < n; i++) {
                out = 2 * out + b(128);
            }
            return out;
        }
    }

    private final Picture[] slots = new Picture[8];
    private Picture shown;
    private final int[][] contexts = new int[4][MODELS];
    private int fault;
    int faultAt = -1;
    private int decoded;
    private int timesShown;
    private PlainHeader head;
    private boolean leavesMotion;
    private int[][] map;
    private Block[][] units = new Block[0][0];
    private Block[][] lastUnits;
    private int[] models;
    private int[] zeros;
    private int[] ones;
    private int blocks;
    private int numbers;
    private int lines;
    private int bits;
    private int transformMode;
    private int doubling;
    private Row data;
    private Picture picture;
    private boolean[][][] known;
    private boolean[][][] numbered;

    PlainDecoder() {
        forgetModels();
    }

    private void forgetModels() {
        for (int[] context : contexts) {
            Arrays.fill(context, 128);
        }
    }

    private static int r(int v, int n) {
        return v + (1 << n) / 2 >> n;
    }

    private static int within(int v, int least, int most) {
        return Math.max(least, Math.min(most, v));
    }

    private static int clip(int v) {
        return within(v, 0, 255);
    }

    private static int log(int v) {
        return 31 - Integer.numberOfLeadingZeros(v);
    }

    // CHUNK

    /** How many pictures the chunk shows, or its fault, negated. */
    int decode(byte[] chunk) {
        int before = timesShown;
        int i = -1;
        fault = 0;
        faultAt = -1;
        try {
            for (byte[] frame : framesOf(chunk)) {
                i++;
                if (frame.length > 0) {
                    decodeFrame(frame);
                }
            }
        } catch (PlainHeader.Fault e) {
            fault = e.number;
            faultAt = i;
            return -fault;
        }
        return timesShown - before;
    }

    private static List<byte[]> framesOf(byte[] chunk) {
        int last = chunk.length == 0 ? 0 : chunk[chunk.length - 1] & 255;
        for (int s = 1; s <= 4; s++) {
            for (int n = 1; n <= 8; n++) {
                int from = chunk.length - (2 + s * n);
                if (last == 192 + 8 * (s - 1) + (n - 1) && from >= 0 && (chunk[from] & 255) == last) {
                    return indexed(chunk, from, s, n);
                }
            }
        }
        return List.of(chunk);
    }

    private static List<byte[]> indexed(byte[] chunk, int from, int s, int n) {
        long[] ends = new long[n + 1];
        for (int i = 0; i < n; i++) {
            ends[i + 1] = ends[i];
            for (int j = 0; j < s; j++) {
                ends[i + 1] += (chunk[from + 1 + s * i + j] & 255L) << 8 * j;
            }
        }
        if (ends[n] > from) {
            throw new PlainHeader.Fault(8);
        }
        List<byte[]> out = new ArrayList<>();
        for (int i = 0; i < n; i++) {
            out.add(Arrays.copyOfRange(chunk, (int) ends[i], (int) ends[i + 1]));
        }
        return out;
    }

    // FRAME, SECOND HEADER, AT THE END

    private void decodeFrame(byte[] bytes) {
        PlainHeader next = new PlainHeader(bytes, slots, head);
        decoded++;
        if (next.again >= 0) {
            show(slots[next.again]);
            leavesMotion = false;
            return;
        }
        begin(next);
        readSecond(new Row(Arrays.copyOfRange(bytes, head.second, head.data)));
        data = new Row(Arrays.copyOfRange(bytes, head.data, bytes.length));
        for (int y = 0; y < head.h; y += 64) {
            for (int x = 0; x < head.w; x += 64) {
                divide(x, y, 64);
            }
        }
        for (int p = 0; p < 3 && head.level != 0; p++) {
            filter(p, true);
            filter(p, false);
        }
        end();
    }

    private void show(Picture what) {
        shown = what;
        timesShown++;
    }

    private void begin(PlainHeader next) {
        boolean sameSize = head != null && head.w == next.w && head.h == next.h;
        lastUnits = sameSize && leavesMotion && !next.resilient ? units : null;
        head = next;
        units = new Block[(head.h + 7) / 8][(head.w + 7) / 8];
        if (!sameSize || head.afresh()) {
            map = new int[units.length][units[0].length];
        }
        if (head.afresh()) {
            forgetModels();
        }
        models = contexts[head.context].clone();
        zeros = new int[MODELS];
        ones = new int[MODELS];
        blocks = 0;
        numbers = 0;
        lines = 0;
        bits = 0;
        picture = new Picture(head.w, head.h);
        known = new boolean[3][][];
        numbered = new boolean[3][][];
        for (int p = 0; p < 3; p++) {
            known[p] = new boolean[picture.planes[p].length][picture.planes[p][0].length];
            numbered[p] = new boolean[known[p].length / 4][known[p][0].length / 4];
        }
    }

    private void readSecond(Row in) {
        transformMode = head.lossless() ? 0 : in.l(2);
        if (transformMode == 3) {
            transformMode += in.l(1);
        }
        boolean alike = head.sides[0] == head.sides[1] && head.sides[0] == head.sides[2];
        doubling = head.still() || alike ? 0 : in.l(1);
        if (doubling == 1) {
            doubling += in.l(1);
        }
        for (int k = 0; k < MODELS; k++) {
            if (in.b(252) == 1) {
                models[k] = in.l(1) == 1 ? Math.max(1, in.l(8)) : stepped(models[k], in.l(4) + 1, in.l(1));
            }
        }
    }

    private static int stepped(int model, int step, int less) {
        return within(less == 1 ? model - step : model + step, 1, 255);
    }

    private void end() {
        int[] context = contexts[head.context];
        for (int k = 0; k < MODELS && head.keep; k++) {
            context[k] = head.fixed || head.resilient ? models[k] : together(context[k], zeros[k], ones[k]);
        }
        for (int k = 0; k < 8; k++) {
            slots[k] = (head.refreshed & 1 << k) != 0 ? picture : slots[k];
        }
        if (head.shown) {
            show(picture);
        }
        leavesMotion = head.shown;
    }

    private static int together(int v, int zeros, int ones) {
        int n = zeros + ones;
        if (n == 0) {
            return v;
        }
        int w = within((256 * zeros + n / 2) / n, 1, 255);
        int f = 128 * Math.min(n, 20) / 20;
        return r(v * (256 - f) + w * f, 8);
    }

    private int m(int k) {
        int bit = data.b(models[k]);
        zeros[k] += 1 - bit;
        ones[k] += bit;
        bits++;
        return bit;
    }

    /** One by one: 1 is the next, 0 it is this. */
    private int onward(int first, int most) {
        for (int i = 0; i < most; i++) {
            if (m(first + i) == 0) {
                return i;
            }
        }
        return most;
    }

    // BLOCKS

    private boolean isInside(int column, int row) {
        return column >= 0 && row >= 0 && row < units.length && column < units[0].length;
    }

    /** The block of a unit, null if it is not there. */
    private Block there(int column, int row) {
        return isInside(column, row) ? units[row][column] : null;
    }

    private static int count(boolean above, boolean left) {
        return (above ? 1 : 0) + (left ? 1 : 0);
    }

    private void divide(int x, int y, int s) {
        if (!isInside(x / 8, y / 8)) {
            return;
        }
        if (s == 8) {
            take(x, y, 8, 8);
            return;
        }
        int half = s / 2;
        switch (division(x, y, s)) {
            case 0:
                take(x, y, s, s);
                return;
            case 1:
                take(x, y, s, half);
                take(x, y + half, s, half);
                return;
            case 2:
                take(x, y, half, s);
                take(x + half, y, half, s);
                return;
            default:
                divide(x, y, half);
                divide(x + half, y, half);
                divide(x, y + half, half);
                divide(x + half, y + half, half);
        }
    }

    /** 0 whole, 1 flat halves, 2 high halves, 3 quarters; a half that begins outside is not taken. */
    private int division(int x, int y, int s) {
        Block a = there(x / 8, y / 8 - 1);
        Block l = there(x / 8 - 1, y / 8);
        int n = (a != null && 8 * a.w < s ? 1 : 0) + (l != null && 8 * l.h < s ? 2 : 0);
        int k = 5 * ((s == 64 ? 0 : s == 32 ? 4 : 8) + n);
        boolean row = isInside(x / 8, (y + s / 2) / 8);
        boolean column = isInside((x + s / 2) / 8, y / 8);
        if (row && column) {
            return onward(k, 3);
        }
        if (column) {
            return m(k + 3) == 0 ? 1 : 3;
        }
        return row && m(k + 4) == 0 ? 2 : 3;
    }

    private void take(int x, int y, int wide, int high) {
        if (!isInside(x / 8, y / 8)) {
            return;
        }
        Block b = new Block(x / 8, y / 8, wide / 8, high / 8);
        Block a = there(b.x, b.y - 1);
        Block l = there(b.x - 1, b.y);
        blocks++;
        if (head.inUse) {
            readSegment(b, a, l);
        }
        b.skip = head.feature(b.segment, 3) != null
                || m(60 + count(a != null && a.skip, l != null && l.skip)) == 1;
        Integer named = head.feature(b.segment, 2);
        if (!head.still()) {
            b.other = named != null ? named != 0
                    : m(1101 + count(a != null && a.other, l != null && l.other)) == 1;
        }
        readSize(b, a, l);
        if (b.other) {
            readReferences(b, a, l);
            readKind(b, a, l);
            readVectors(b);
        } else {
            readModes(b, a, l);
        }
        for (int[] unit : unitsOf(b)) {
            units[unit[1]][unit[0]] = b;
        }
        for (int p = 0; p < 3; p++) {
            paint(b, p);
        }
    }

    private List<int[]> unitsOf(Block b) {
        List<int[]> out = new ArrayList<>();
        for (int row = b.y; row < b.y + b.h; row++) {
            for (int column = b.x; column < b.x + b.w; column++) {
                if (isInside(column, row)) {
                    out.add(new int[] {column, row});
                }
            }
        }
        return out;
    }

    private void readSegment(Block b, Block a, Block l) {
        int guess = 7;
        for (int[] unit : unitsOf(b)) {
            guess = Math.min(guess, map[unit[1]][unit[0]]);
        }
        int n = count(a != null && a.guessedRight, l != null && l.guessedRight);
        if (!head.mapTold) {
            b.segment = guess;
        } else if (head.still() || !head.guessed || data.b(head.guesses[n]) == 0) {
            int t1 = data.b(head.tree[0]);
            int t2 = data.b(head.tree[1 + t1]);
            int t3 = data.b(head.tree[3 + 2 * t1 + t2]);
            b.segment = 4 * t1 + 2 * t2 + t3;
        } else {
            b.segment = guess;
            b.guessedRight = true;
        }
        for (int[] unit : unitsOf(b)) {
            map[unit[1]][unit[0]] = b.segment;
        }
    }

    private void readSize(Block b, Block a, Block l) {
        int allowed = transformMode == 4 ? 32 : 4 << transformMode;
        int max = Math.min(Math.min(8 * Math.min(b.w, b.h), 32), allowed);
        b.size = log(max / 4);
        if (transformMode == 4 && max > 4 && !b.bare()) {
            int above = a == null || a.bare() ? b.size : a.size;
            int left = l == null || l.bare() ? b.size : l.size;
            int n = above + left > b.size ? 1 : 0;
            int o = max == 8 ? 0 : max == 16 ? 1 : 3;
            b.size = onward(63 + 6 * n + o, b.size);
        }
    }

    private void readModes(Block b, Block a, Block l) {
        int above = a == null || a.other ? 0 : a.mode;
        int left = l == null || l.other ? 0 : l.mode;
        b.mode = onward(head.still() ? 75 + 9 * (10 * above + left) : 975 + 9 * log(Math.min(b.w, b.h)), 9);
        b.chroma = onward(1011 + 9 * b.mode, 9);
    }

    private void readReferences(Block b, Block a, Block l) {
        Integer named = head.feature(b.segment, 2);
        if (named != null) {
            b.references.add(named - 1);
            return;
        }
        boolean isDouble = doubling == 1;
        if (doubling == 2) {
            int n = count(a != null && a.references.size() == 2, l != null && l.references.size() == 2);
            isDouble = m(1104 + n) == 1;
        }
        int n = count(a != null && a.firstIsZero(), l != null && l.firstIsZero());
        b.references.add(isDouble ? m(1107 + n) : onward(1110 + 2 * n, 2));
        if (isDouble) {
            b.references.add(2);
        }
    }

    private void readKind(Block b, Block a, Block l) {
        int n = count(a != null && a.kind == 3, l != null && l.kind == 3);
        b.kind = head.feature(b.segment, 3) != null ? 0 : onward(1116 + 3 * n, 3);
        n = count(a != null && a.kernel == 1, l != null && l.kernel == 1);
        b.kernel = head.kernel == 2 ? m(1125 + n) : head.kernel;
    }

    private void readVectors(Block b) {
        for (int reference : b.references) {
            int[] vector = new int[2];
            if (b.kind > 0) {
                vector = collect(b, reference).get(b.kind == 2 ? 1 : 0);
            }
            if (b.kind == 3) {
                addDifference(vector);
            }
            b.vectors.add(vector);
        }
    }

    private void addDifference(int[] nearest) {
        boolean finest = head.fine && Math.abs(nearest[0]) < 64 && Math.abs(nearest[1]) < 64;
        int joint = onward(1128, 3);
        if (joint >= 2) {
            nearest[1] += difference(1131, finest);
        }
        if (joint == 1 || joint == 3) {
            nearest[0] += difference(1158, finest);
        }
    }

    private int difference(int v, boolean finest) {
        int sign = m(v) == 1 ? -1 : 1;
        int c = onward(v + 1, 7);
        int d = c == 0 ? m(v + 8) : 0;
        for (int j = 0; j < c; j++) {
            d += m(v + 9 + j) << j;
        }
        int q = c == 0 ? v + 16 + 3 * d : v + 22;
        int higher = m(q);
        int f = 2 * higher + m(q + 1 + higher);
        int e = finest ? m(c == 0 ? v + 25 : v + 26) : 1;
        return sign * ((c == 0 ? 0 : 1 << c + 3) + 8 * d + 2 * f + e + 1);
    }

    private List<int[]> collect(Block b, int r) {
        int[][] places = {
            {0, -1}, {-1, 0}, {b.w - 1, -1}, {-1, b.h - 1}, {-1, -1}, {0, -2}, {-2, 0}, {-2, -2}};
        List<Block> sources = new ArrayList<>();
        for (int[] place : places) {
            sources.add(there(b.x + place[0], b.y + place[1]));
        }
        sources.add(lastUnits == null ? null : lastUnits[b.y][b.x]);
        List<int[]> found = new ArrayList<>();
        offer(found, sources, r, true);
        offer(found, sources, r, false);
        while (found.size() < 2) {
            found.add(new int[2]);
        }
        for (int[] vector : found) {
            round(vector);
            vector[0] = within(vector[0], -8 * (8 * b.x + 8 * b.w + 16), 8 * (head.w + 16 - 8 * b.x));
            vector[1] = within(vector[1], -8 * (8 * b.y + 8 * b.h + 16), 8 * (head.h + 16 - 8 * b.y));
        }
        return found;
    }

    private void offer(List<int[]> found, List<Block> sources, int r, boolean same) {
        for (Block source : sources) {
            for (int i = 0; source != null && i < source.references.size(); i++) {
                int its = source.references.get(i);
                int turn = head.sides[its] == head.sides[r] ? 1 : -1;
                int[] vector = {turn * source.vectors.get(i)[0], turn * source.vectors.get(i)[1]};
                boolean isNext = found.isEmpty() || found.size() == 1 && !Arrays.equals(found.get(0), vector);
                if ((its == r) == same && isNext) {
                    found.add(vector);
                }
            }
        }
    }

    private void round(int[] vector) {
        if (!head.fine || Math.abs(vector[0]) >= 64 || Math.abs(vector[1]) >= 64) {
            vector[0] = vector[0] / 2 * 2;
            vector[1] = vector[1] / 2 * 2;
        }
    }

    // RESIDUE and TRANSFORM

    private void paint(Block b, int p) {
        int unit = p == 0 ? 8 : 4;
        int n = b.sideIn(p);
        if (b.other) {
            predictFromOthers(b, p, unit);
        }
        for (int y = unit * b.y; y < unit * (b.y + b.h); y += n) {
            for (int x = unit * b.x; x < unit * (b.x + b.w); x += n) {
                if (isInside(x / unit, y / unit)) {
                    paintSquare(b, p, x, y, n);
                }
            }
        }
    }

    private void paintSquare(Block b, int p, int x, int y, int n) {
        int[][] its = b.skip ? null : readNumbers(b, p, x, y, n);
        if (!b.other) {
            predictFromItself(p, x, y, n, p == 0 ? b.mode : b.chroma);
        }
        if (its != null) {
            int[][] more = head.lossless() ? exact(its) : Numbers.turned(n, p == 0 && !b.other && n == 4, its);
            for (int i = 0; i < n * n; i++) {
                int[] row = picture.planes[p][y + i / n];
                row[x + i % n] = clip(row[x + i % n] + more[i / n][i % n]);
            }
        }
        for (int row = y / 4; row < (y + n) / 4; row++) {
            Arrays.fill(numbered[p][row], x / 4, (x + n) / 4, its != null);
        }
    }

    private boolean hasNumbers(int p, int x, int y) {
        int unit = p == 0 ? 8 : 4;
        return x >= 0 && y >= 0 && there(x / unit, y / unit) != null && numbered[p][y / 4][x / 4];
    }

    private static int orderOf(Block b, int p, int n) {
        if (p != 0 || b.other || n > 8) {
            return 0;
        }
        return List.of(1, 5, 8).contains(b.mode) ? 1 : List.of(2, 6, 7).contains(b.mode) ? 2 : 0;
    }

    /** The square's numbers, times the quantiser, [y][x]; null if it has none. */
    private int[][] readNumbers(Block b, int p, int x, int y, int n) {
        List<int[]> scan = Numbers.scan(n, orderOf(b, p, n));
        int[][] amounts = new int[n][n];
        int[][] out = new int[n][n];
        boolean behindZero = false;
        for (int i = 0; i < n * n; i++) {
            int h = scan.get(i)[0];
            int v = scan.get(i)[1];
            int c = i == 0 ? count(hasNumbers(p, x, y - 1), hasNumbers(p, x - 1, y)) : grades(amounts, h, v);
            int m = Numbers.model(log(n / 4), p, b.other, Numbers.band(i), c);
            if (!behindZero && m(m) == 0) {
                return i == 0 ? null : out;
            }
            amounts[v][h] = m(m + 1) == 0 ? 0 : m(m + 2) == 0 ? 1 : 2 + tail(p);
            behindZero = amounts[v][h] == 0;
            if (!behindZero) {
                int number = data.l(1) == 1 ? -amounts[v][h] : amounts[v][h];
                out[v][h] = within(number * quantiser(b, p, i == 0), -32768, 32767);
                numbers++;
            }
        }
        return out;
    }

    private static int grades(int[][] amounts, int h, int v) {
        int above = v > 0 ? amounts[v - 1][h] : amounts[v][h - 1];
        int left = h > 0 ? amounts[v][h - 1] : amounts[v - 1][h];
        return (1 + Numbers.grade(above) + Numbers.grade(left)) / 2;
    }

    private int tail(int p) {
        int u = onward(p == 0 ? 2913 : 2927, 14);
        return (1 << u) - 1 + data.l(u);
    }

    private int quantiser(Block b, int p, boolean isFirst) {
        if (head.lossless()) {
            return 1;
        }
        Integer told = head.feature(b.segment, 0);
        int i = told == null ? head.base : clip(head.absolute ? told : head.base + told);
        i = clip(i + (isFirst ? head.deltas[p == 0 ? 0 : 1] : p == 0 ? 0 : head.deltas[2]));
        return 4 + i + i * i / (isFirst ? 128 : 64);
    }

    private static int[] four(int a, int b, int c, int d) {
        int e = a + b - (d - c) >> 1;
        return new int[] {a + b - (e - b), e - b, e - c, d - c + e - c};
    }

    private static int[][] exact(int[][] numbers) {
        int[][] out = new int[4][];
        for (int y = 0; y < 4; y++) {
            out[y] = four(numbers[y][0], numbers[y][1], numbers[y][2], numbers[y][3]);
        }
        for (int x = 0; x < 4; x++) {
            int[] column = four(out[0][x], out[1][x], out[2][x], out[3][x]);
            for (int y = 0; y < 4; y++) {
                out[y][x] = column[y];
            }
        }
        return out;
    }

    // PREDICTION

    private boolean isKnown(int p, int x, int y) {
        return x >= 0 && y >= 0 && y < known[p].length && x < known[p][0].length && known[p][y][x];
    }

    private void write(int p, int x, int y, int value) {
        picture.planes[p][y][x] = value;
        known[p][y][x] = true;
    }

    /** So many samples from a place on, to the right or down; where one is not known, the one before. */
    private int[] samples(int p, int x, int y, boolean down, int n, int without) {
        int[] out = new int[n];
        boolean isKnown = true;
        for (int i = 0; i < n; i++) {
            int h = down ? x : x + i;
            int v = down ? y + i : y;
            isKnown = isKnown && isKnown(p, h, v);
            out[i] = isKnown ? picture.planes[p][v][h] : i > 0 ? out[i - 1] : without;
        }
        return out;
    }

    private void predictFromItself(int p, int x, int y, int n, int mode) {
        boolean knowsA = isKnown(p, x, y - 1);
        boolean knowsL = isKnown(p, x - 1, y);
        int[] a = samples(p, x, y - 1, false, 2 * n, 127);
        int[] l = samples(p, x - 1, y, true, n, 129);
        int c = isKnown(p, x - 1, y - 1) ? picture.planes[p][y - 1][x - 1] : knowsA ? 129 : 127;
        int sum = 0;
        for (int i = 0; i < n; i++) {
            sum += (knowsA ? a[i] : 0) + (knowsL ? l[i] : 0);
        }
        int of = n * count(knowsA, knowsL);
        int mean = of == 0 ? 128 : (sum + of / 2) / of;
        for (int i = 0; i < n * n; i++) {
            write(p, x + i % n, y + i / n, mode == 0 ? mean : Modes.sample(mode, i % n, i / n, n, a, l, c));
        }
    }

    private void predictFromOthers(Block b, int p, int unit) {
        for (int y = unit * b.y; y < unit * (b.y + b.h); y++) {
            for (int x = unit * b.x; x < unit * (b.x + b.w); x++) {
                int first = fetched(b, 0, p, x, y);
                write(p, x, y, b.references.size() == 1 ? first : r(first + fetched(b, 1, p, x, y), 1));
            }
        }
    }

    private static int tap(int kernel, int f, int i) {
        if (kernel == 1) {
            return i == 3 ? 128 - 8 * f : i == 4 ? 8 * f : 0;
        }
        return f <= 8 ? TAPS[f][i] : TAPS[16 - f][7 - i];
    }

    private int fetched(Block b, int which, int p, int x, int y) {
        Picture from = slots[head.references[b.references.get(which)]];
        int u = 16 * x + (p == 0 ? 2 : 1) * b.vectors.get(which)[0];
        int v = 16 * y + (p == 0 ? 2 : 1) * b.vectors.get(which)[1];
        int sum = 0;
        for (int j = 0; j < 8; j++) {
            int[] row = from.planes[p][within(Math.floorDiv(v, 16) + j - 3, 0, from.high(p) - 1)];
            int line = 0;
            for (int i = 0; i < 8; i++) {
                int at = within(Math.floorDiv(u, 16) + i - 3, 0, from.wide(p) - 1);
                line += tap(b.kernel, Math.floorMod(u, 16), i) * row[at];
            }
            sum += tap(b.kernel, Math.floorMod(v, 16), j) * clip(r(line, 7));
        }
        return clip(r(sum, 7));
    }

    // FILTER

    private int levelOf(Block b) {
        Integer told = head.feature(b.segment, 1);
        int l = told == null ? head.level : within(head.absolute ? told : head.level + told, 0, 63);
        if (head.extrasCount && l != 0) {
            int s = l < 32 ? 1 : 2;
            int byReference = head.extras[b.other ? 1 + b.references.get(0) : 0];
            int byKind = b.other ? head.extras[b.kind == 0 ? 4 : 5] : 0;
            l = within(l + s * byReference + s * byKind, 0, 63);
        }
        return l;
    }

    private void filter(int p, boolean upright) {
        int unit = p == 0 ? 8 : 4;
        for (int y = 0; y < unit * units.length; y += 4) {
            for (int x = 0; x < unit * units[0].length; x += 4) {
                Block b = units[y / unit][x / unit];
                int place = upright ? x : y;
                boolean isFirst = place == unit * (upright ? b.x : b.y);
                boolean isEdge = place != 0 && place % b.sideIn(p) == 0 && (isFirst || !b.bare());
                for (int i = 0; i < 4 && isEdge && levelOf(b) != 0; i++) {
                    filterLine(b, p, upright ? x : x + i, upright ? y + i : y, upright);
                }
            }
        }
    }

    private void filterLine(Block b, int p, int x, int y, boolean upright) {
        int reach = b.sideIn(p) >= 16 ? 8 : 4;
        int[][] plane = picture.planes[p];
        int[] line = new int[2 * reach];
        for (int i = 0; i < line.length; i++) {
            line[i] = upright ? plane[y][x + i - reach] : plane[y + i - reach][x];
        }
        int[] out = Smoother.line(line, b.sideIn(p), levelOf(b), head.sharp);
        lines += Arrays.equals(line, out) ? 0 : 1;
        for (int i = 0; i < line.length; i++) {
            plane[upright ? y : y + i - reach][upright ? x + i - reach : x] = out[i];
        }
    }

    // What can be asked

    /** Everything, in the one line that Calls.state makes of the program. */
    String state() {
        StringBuilder out = new StringBuilder();
        int kind = head == null ? -1 : !head.inter ? 0 : head.intraOnly ? 1 : 2;
        for (int number : new int[] {fault, faultAt, decoded, timesShown, blocks, bits, numbers, lines, kind}) {
            out.append(number).append(' ');
        }
        for (int slot = -1; slot < 8; slot++) {
            Picture its = slot < 0 ? shown : slots[slot];
            out.append(its == null ? "none" : its.state()).append(' ');
        }
        for (int[] context : contexts) {
            byte[] bytes = new byte[MODELS];
            for (int k = 0; k < MODELS; k++) {
                bytes[k] = (byte) context[k];
            }
            out.append(Calls.crc(bytes)).append(' ');
        }
        StringBuilder told = new StringBuilder();
        for (Block[] row : units) {
            for (Block b : row) {
                told.append(Arrays.toString(b.told()).replaceAll("[\\[\\] ]", "")).append(';');
            }
        }
        return out.append(Calls.crc(told.toString().getBytes())).toString();
    }
}
