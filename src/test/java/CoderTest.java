import java.util.Arrays;

/** DECODING and SECOND HEADER: the arithmetic decoder at its edges, and the models that a frame changes. */
public final class CoderTest {
    private static final Due DUE = new Due();

    public static void main(String[] args) {
        firstByte255();
        zerosBehindTheEnd();
        zerosBehindTheSecondHeader();
        valueAtTheSplit();
        rangeAt128();
        chancesAtTheirLimits();
        transformModes();
        losslessHasNoMode();
        doubleBySides();
        sidesAlikeBehindDoubles();
        stillHasNoDouble();
        stepsWithinLimits();
        valuesTold();
        firstAndLastModel();
        secondHeaderOfOnes();
        eachModelItsChance();
        bitsOfModelsAlone();
        DUE.close("CoderTest");
    }

    private static VideoDecoder raw(int... data) {
        FrameWriter frame = FrameWriter.key(8, 8);
        frame.rawData = new byte[data.length];
        for (int i = 0; i < data.length; i++) {
            frame.rawData[i] = (byte) data[i];
        }
        VideoDecoder x = new VideoDecoder();
        DUE.be("decode of " + Arrays.toString(data), Calls.decode(x, frame), 1);
        return x;
    }

    private static void due(VideoDecoder x, int skip, int mode, int chroma) {
        DUE.be("SKIP", x.block(0, 0, 5), skip);
        DUE.be("mode", x.block(0, 0, 7), mode);
        DUE.be("chroma mode", x.block(0, 0, 8), chroma);
    }

    private static void firstByte255() {
        DUE.says("VALUE its first byte (254 if that is 255)");
        // RANGE less VALUE: 1, and twice as much behind each 1, until 128 gives a 0 behind seven ones.
        due(raw(255, 0, 0), 1, 6, 6);
        due(raw(254, 0, 0), 1, 6, 6);
        // One less: six ones, and behind their 0 it is 2 again: six more.
        due(raw(253, 0, 0), 1, 5, 6);
    }

    private static void zerosBehindTheEnd() {
        DUE.says("takes the next bit (highest first; zeros behind the end)");
        due(raw(255), 1, 6, 6);
        due(raw(255, 0), 1, 6, 6);
        due(raw(255, 255), 1, 9, 5);
        due(raw(255, 255, 255), 1, 9, 9);
        due(raw(255, 128), 1, 7, 6);
        due(raw(255, 1), 1, 6, 7);
        // The bytes of the next frame are behind the end, too.
        FrameWriter frame = FrameWriter.key(8, 8);
        frame.rawData = new byte[] {-1};
        VideoDecoder x = new VideoDecoder();
        Calls.decode(x, Calls.chunk(1, frame.bytes(), FrameWriter.again(7)));
        due(x, 1, 6, 6);
    }

    private static void zerosBehindTheSecondHeader() {
        DUE.says("zeros behind the end of the SECOND HEADER");
        FrameWriter frame = FrameWriter.key(8, 8);
        frame.keep = true;
        frame.fixed = true;
        frame.rawSecond = new byte[] {0};
        frame.rawData = new byte[] {-1, -1, -1, -1, -1, -1};
        VideoDecoder x = new VideoDecoder();
        DUE.be("decode", Calls.decode(x, frame), 1);
        for (int k = 0; k < FrameWriter.MODELS; k++) {
            DUE.be("model " + k, x.model(0, k), 128);
        }
        due(x, 1, 9, 9);
    }

    private static void valueAtTheSplit() {
        DUE.says("VALUE below S: the BIT is 0; else it is 1");
        // S is 1 + 254 * 128 / 256 = 128 at first.
        DUE.be("127", raw(127, 255, 255).block(0, 0, 5), 0);
        due(raw(128), 1, 0, 0);
        // Behind a 1 RANGE is 254, S 127 and VALUE twice what is left, plus a bit.
        due(raw(128 + 63, 0), 1, 0, 6);
        due(raw(128 + 63, 128), 1, 1, 0);
    }

    private static void rangeAt128() {
        DUE.says("while RANGE is below 128, RANGE doubles");
        // A 0 of chance 128 leaves a RANGE of just 128: S is 64 then, and 63 is below it.
        FrameWriter frame = FrameWriter.key(8, 8);
        frame.rawData = new byte[] {63, -1, -1, -1};
        VideoDecoder x = new VideoDecoder();
        Calls.decode(x, frame);
        DUE.be("63: SKIP", x.block(0, 0, 5), 0);
        DUE.be("63: mode", x.block(0, 0, 7), 0);
        DUE.be("64: mode", raw(64, 0, 0).block(0, 0, 7), 1);
    }

    private static void chancesAtTheirLimits() {
        DUE.says("S = 1 + ((RANGE - 1) * p) / 256, for chances 1 and 255");
        for (int chance : new int[] {1, 2, 127, 254, 255}) {
            for (int mode = 0; mode < 10; mode++) {
                FrameWriter frame = FrameWriter.key(8, 8);
                for (int k = 60; k < 1101; k++) {
                    frame.models.put(k, chance);
                }
                frame.m(60, "1").ladder(75, mode, 9).ladder(1011 + 9 * mode, 9 - mode, 9);
                VideoDecoder x = new VideoDecoder();
                Calls.decodeLearning(DUE, x, frame);
                due(x, 1, mode, 9 - mode);
            }
        }
    }

    private static void transformModes() {
        DUE.says("L(2) the TRANSFORM MODE, 3: plus L(1)");
        for (int mode = 0; mode <= 4; mode++) {
            FrameWriter frame = FrameWriter.key(64, 64);
            frame.transformMode = mode;
            frame.m(0, "0").m(60, "1");
            if (mode == 4) {
                frame.m(63 + 6 + 3, "110");
            }
            VideoDecoder x = new VideoDecoder();
            Calls.decodeLearning(DUE, x, frame.ladder(75, 0, 9).ladder(1011, 3, 9));
            DUE.be("SIZE", x.block(7, 7, 6), mode == 4 ? 2 : mode);
        }
    }

    private static void losslessHasNoMode() {
        DUE.says("LOSSLESS: 0 (no mode is read)");
        FrameWriter frame = FrameWriter.key(64, 64);
        frame.base = 0;
        frame.models.put(0, 33);
        frame.models.put(1, 1);
        frame.models.put(2940, 250);
        VideoDecoder x = new VideoDecoder();
        Calls.decodeLearning(DUE, x, frame.m(0, "0").m(60, "1").ladder(75, 0, 9).ladder(1011, 3, 9));
        DUE.be("SIZE", x.block(7, 7, 6), 0);
        // Also behind a frame that had another mode.
        for (int mode = 1; mode <= 4; mode++) {
            FrameWriter before = FrameWriter.key(64, 64);
            before.transformMode = mode;
            Calls.decode(x, before);
            FrameWriter after = FrameWriter.inter();
            after.base = 0;
            after.refreshed = 0;
            Calls.decodeLearning(DUE, x, after.m(0, "0").m(60, "1").m(1101, "1").m(1110, "0").m(1116, "0"));
            DUE.be("SIZE behind mode " + mode, x.block(7, 7, 6), 0);
        }
    }

    private static void doubleBySides() {
        DUE.says("not all three SIDES alike: L(1): 0 no block is DOUBLE; 1: L(1): 0 each, 1 each block says;"
                + " all SIDES alike: none");
        for (int sides = 0; sides < 8; sides++) {
            for (int doubling = 0; doubling < 3; doubling++) {
                VideoDecoder x = new VideoDecoder();
                Calls.decode(x, FrameWriter.key(8, 8).bits("100"));
                FrameWriter frame = FrameWriter.inter();
                frame.sides = new int[] {sides & 1, sides >> 1 & 1, sides >> 2};
                frame.doubling = doubling;
                frame.models.put(2940, 7);
                frame.m(60, "1").m(1101, "1");
                boolean alike = sides == 0 || sides == 7;
                if (!alike && doubling == 2) {
                    frame.m(1104, "1");
                }
                if (!alike && doubling > 0) {
                    frame.m(1107, "1");
                } else {
                    frame.m(1110, "10");
                }
                Calls.decodeLearning(DUE, x, frame.m(1116, "0"));
                DUE.be("first", x.block(0, 0, 9), 1);
                DUE.be("second", x.block(0, 0, 10), !alike && doubling > 0 ? 2 : -1);
            }
        }
    }

    private static void sidesAlikeBehindDoubles() {
        DUE.says("all SIDES alike: none (also behind a frame whose blocks were DOUBLE)");
        for (int doubling = 1; doubling <= 2; doubling++) {
            VideoDecoder x = new VideoDecoder();
            Calls.decode(x, FrameWriter.key(8, 8).bits("100"));
            FrameWriter before = FrameWriter.inter();
            before.sides[0] = 1;
            before.doubling = doubling;
            Calls.decode(x, before.bits("1 1 1 1 0"));
            DUE.be("second of the frame before", x.block(0, 0, 10), 2);
            FrameWriter frame = FrameWriter.inter();
            frame.context = 1;
            Calls.decodeLearning(DUE, x, frame.m(60, "1").m(1101, "1").m(1110, "0").m(1116, "0"));
            DUE.be("second", x.block(0, 0, 10), -1);
        }
    }

    private static void stillHasNoDouble() {
        DUE.says("Not STILL (a STILL frame reads nothing of DOUBLE)");
        for (int kind = 0; kind < 2; kind++) {
            VideoDecoder x = new VideoDecoder();
            Calls.decode(x, FrameWriter.key(8, 8).bits("100"));
            FrameWriter inter = FrameWriter.inter();
            inter.sides[1] = 1;
            inter.doubling = 1;
            Calls.decode(x, inter);
            FrameWriter frame = kind == 0 ? FrameWriter.key(8, 8) : FrameWriter.intra(8, 8);
            frame.models.put(0, 5);
            frame.models.put(2940, 6);
            Calls.decodeLearning(DUE, x, frame.m(60, "1").ladder(75, 8, 9).ladder(1083, 9, 9));
        }
    }

    private static int changed(int from, int step) {
        VideoDecoder x = new VideoDecoder();
        FrameWriter first = FrameWriter.key(8, 8);
        first.keep = true;
        first.fixed = true;
        first.models.put(1500, from);
        Calls.decode(x, first.bits("100"));
        DUE.be("model told", x.model(0, 1500), from);
        FrameWriter next = FrameWriter.inter();
        next.keep = true;
        next.fixed = true;
        next.modelSteps.put(1500, step);
        Calls.decode(x, next.bits("1000"));
        return x.model(0, 1500);
    }

    private static void stepsWithinLimits() {
        DUE.says("d = L(4): 1 it is d + 1 less, 0 it is d + 1 more, within 1 .. 255");
        for (int from : new int[] {1, 2, 16, 17, 18, 128, 238, 239, 240, 254, 255}) {
            for (int step : new int[] {-16, -15, -2, -1, 1, 2, 15, 16}) {
                int due = Math.max(1, Math.min(255, from + step));
                DUE.be(from + " and " + step, changed(from, step), due);
            }
        }
    }

    private static void valuesTold() {
        DUE.says("L(8), 0 counting as 1");
        FrameWriter frame = FrameWriter.key(8, 8);
        frame.keep = true;
        frame.fixed = true;
        for (int value = 0; value < 256; value++) {
            frame.models.put(1000 + value, value);
        }
        VideoDecoder x = new VideoDecoder();
        Calls.decode(x, frame.bits("1"));
        for (int value = 0; value < 256; value++) {
            DUE.be("told " + value, x.model(0, 1000 + value), Math.max(1, value));
        }
    }

    private static void firstAndLastModel() {
        DUE.says("for each MODEL, in order; 2941 in all");
        FrameWriter frame = FrameWriter.key(8, 8);
        frame.keep = true;
        frame.fixed = true;
        for (int k = 0; k < FrameWriter.MODELS; k++) {
            if (k % 3 == 0) {
                frame.models.put(k, 1 + k * 7 % 255);
            } else if (k % 3 == 1) {
                frame.modelSteps.put(k, 1 + k % 16);
            }
        }
        VideoDecoder x = new VideoDecoder();
        Calls.decode(x, frame);
        for (int k = 0; k < FrameWriter.MODELS; k++) {
            int due = k % 3 == 0 ? 1 + k * 7 % 255 : k % 3 == 1 ? 129 + k % 16 : 128;
            DUE.be("model " + k, x.model(0, k), due);
        }
    }

    private static void secondHeaderOfOnes() {
        DUE.says("for each MODEL: B(252): 1: it is changed; and nothing more behind the last");
        FrameWriter frame = FrameWriter.key(8, 8);
        frame.keep = true;
        frame.fixed = true;
        frame.rawSecond = new byte[6000];
        Arrays.fill(frame.rawSecond, (byte) 255);
        frame.rawData = new byte[] {0};
        VideoDecoder x = new VideoDecoder();
        DUE.be("decode", Calls.decode(x, frame), 1);
        for (int k = 0; k < FrameWriter.MODELS; k++) {
            DUE.be("model " + k, x.model(0, k), 255);
        }
    }

    private static void eachModelItsChance() {
        DUE.says("M(k): B of MODEL k");
        VideoDecoder x = new VideoDecoder();
        for (int mode = 0; mode < 10; mode++) {
            FrameWriter frame = FrameWriter.key(32, 32).spread().m(20, "110");
            frame.transformMode = 4;
            frame.m(60, "0").m(70, "10").ladder(75, mode, 9).ladder(1011 + 9 * mode, 9 - mode, 9);
            int order = mode == 1 || mode == 5 || mode == 8 ? 1 : mode == 2 || mode == 6 || mode == 7 ? 2 : 0;
            // Two columns and four rows of 8 x 8, then two squares of 8 x 8 in each plane of chroma.
            for (int i = 0; i < 8; i++) {
                int c = i == 0 ? 0 : i == 1 || i % 2 == 0 ? 1 : 2;
                Numbers.write(frame, 1, 0, false, order, c, 5, 0, 0, -300, 1, 2, -3 - i, 20000);
            }
            for (int plane = 1; plane < 3; plane++) {
                for (int i = 0; i < 2; i++) {
                    Numbers.write(frame, 1, plane, false, 0, i, 0, 7, -2, 30000, 1, 1, 1, 0, 0, 1, 0, 1);
                }
            }
            frame.m(60, "1").m(70, "10").ladder(75 + 9 * mode, 9, 9).ladder(1092, mode, 9);
            Calls.decodeLearning(DUE, x, frame);
        }
        FrameWriter frame = FrameWriter.inter().spread();
        frame.context = 1;
        frame.fine = true;
        frame.kernel = 2;
        frame.transformMode = 3;
        frame.m(20, "10").m(60, "1").m(1101, "1").m(1110, "11").m(1116, "111").m(1125, "1");
        frame.m(1128, "111").m(1131, "1").m(1132, "1110").m(1140, "101").m(1153, "1").m(1155, "0").m(1157, "1");
        frame.m(1158, "0").m(1159, "1111111").m(1167, "1011001").m(1180, "0").m(1181, "1").m(1184, "0");
        frame.m(61, "0").m(1102, "0").ladder(984, 4, 9).ladder(1047, 8, 9);
        Numbers.write(frame, 2, 0, false, 0, 0, 1, 2, 3);
        Numbers.write(frame, 2, 0, false, 0, 1, 9, 0, 3);
        Numbers.none(frame, 1, 1, false, 0);
        Numbers.none(frame, 1, 1, false, 0);
        Numbers.write(frame, 1, 2, false, 0, 0, -1);
        Numbers.none(frame, 1, 2, false, 1);
        Calls.decodeLearning(DUE, x, frame);
        DUE.be("vector y", x.block(0, 0, 13), -(64 + 8 * 5 + 4 + 1 + 1));
        DUE.be("vector x", x.block(0, 0, 12), 1024 + 8 * 77 + 2 + 1);
    }

    private static void bitsOfModelsAlone() {
        DUE.says("BITS read with MODELS (by M alone)");
        FrameWriter frame = FrameWriter.key(8, 8);
        frame.inUse = true;
        frame.tree = new int[] {100, 100, 100, 100, 100, 100, 100};
        frame.models.put(500, 3);
        frame.b(100, 1).b(100, 1).b(100, 1).m(60, "0").ladder(75, 0, 9).ladder(1011, 0, 9);
        // Tail bits by L and the sign do not count.
        Numbers.write(frame, 0, 0, false, 0, 0, 20);
        for (int i = 1; i < 4; i++) {
            Numbers.none(frame, 0, 0, false, i == 3 ? 0 : 1);
        }
        Numbers.none(frame, 0, 1, false, 0);
        Numbers.none(frame, 0, 2, false, 0);
        VideoDecoder x = new VideoDecoder();
        Calls.decodeLearning(DUE, x, frame);
        DUE.be("count 4", x.count(4), 3 + 3 + 5 + 1 + 3 + 2);
        DUE.be("count 5", x.count(5), 1);
    }
}
