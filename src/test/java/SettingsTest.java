/** FRAME: chances, map, features, extras and deltas: what is told, what stays and what becomes what it was. */
public final class SettingsTest {
    private static final Due DUE = new Due();
    private static final String[] KINDS = {"KEY", "INTRA ONLY", "RESILIENT", "INTER"};

    public static void main(String[] args) {
        modelsBecome128();
        mapBecomesZero();
        featuresBecomeZero();
        extrasBecomeWhatTheyWere();
        mapOfAnotherSize();
        mapBehindAgainAndFaults();
        extrasCountOrNot();
        extrasTold();
        extrasAtTheirLimits();
        deltasDoNotStay();
        lossless();
        notInUseNothingStaysAway();
        notInUseHasNoEffect();
        chancesNotTold();
        chancesToldAsZero();
        featuresToldUnsetAll();
        featuresAndAbsoluteStay();
        DUE.close("SettingsTest");
    }

    /** An 8 x 8 or 16 x 8 frame of a kind, nothing told. */
    private static FrameWriter of(int kind, int width) {
        FrameWriter frame = kind == 0 ? FrameWriter.key(width, 8)
                : kind == 1 ? FrameWriter.intra(width, 8) : FrameWriter.inter();
        frame.resilient = kind == 2;
        return frame;
    }

    private static boolean isStill(int kind) {
        return kind < 2;
    }

    private static void modelsBecome128() {
        DUE.says("STILL or RESILIENT: all MODELS of all four CONTEXTS become 128");
        for (int kind = 0; kind < 5; kind++) {
            VideoDecoder x = new VideoDecoder();
            Calls.decode(x, FrameWriter.key(8, 8).bits("100"));
            for (int context = 0; context < 4; context++) {
                FrameWriter tells = FrameWriter.inter();
                tells.context = context;
                tells.keep = true;
                tells.fixed = true;
                tells.models.put(0, 10 + context);
                tells.models.put(1500, 90 + context);
                tells.models.put(2940, 200 + context);
                Calls.decode(x, tells.bits("1 0 0 0"));
            }
            FrameWriter next = of(Math.min(kind, 3), 8);
            next.resilient = kind == 2 || kind == 4;
            next.inter = kind != 0 && kind != 4;
            next.width = 8;
            next.height = 8;
            next.context = 2;
            Calls.decode(x, next.bits("1 0 0 0"));
            for (int context = 0; context < 4; context++) {
                boolean stays = kind == 3;
                DUE.be("first of " + context + ", kind " + kind, x.model(context, 0), stays ? 10 + context : 128);
                DUE.be("middle", x.model(context, 1500), stays ? 90 + context : 128);
                DUE.be("last", x.model(context, 2940), stays ? 200 + context : 128);
            }
        }
    }

    /** A frame of 8 x 8 whose map says 5. */
    private static FrameWriter mapped(int width) {
        FrameWriter frame = FrameWriter.key(width, 8);
        frame.inUse = true;
        frame.tree = new int[] {128, 128, 128, 128, 128, 128, 128};
        return frame.bits(width > 8 ? "0 101 100" : "101 100");
    }

    private static void mapBecomesZero() {
        DUE.says("STILL or RESILIENT: the MAP of segments becomes 0");
        for (int kind = 0; kind < 4; kind++) {
            VideoDecoder x = new VideoDecoder();
            Calls.decode(x, mapped(8));
            DUE.be("segment told", x.block(0, 0, 4), 5);
            FrameWriter next = of(kind, 8);
            next.inUse = true;
            Calls.decode(x, next.bits("1 0 0 0"));
            DUE.be("segment behind " + KINDS[kind], x.block(0, 0, 4), kind == 3 ? 5 : 0);
        }
    }

    private static void featuresBecomeZero() {
        DUE.says("STILL or RESILIENT: all features become 0");
        for (int kind = 0; kind < 4; kind++) {
            VideoDecoder x = new VideoDecoder();
            FrameWriter first = FrameWriter.key(8, 8);
            first.inUse = true;
            first.featuresTold = true;
            first.features[0][3] = 1;
            Calls.decodeLearning(DUE, x, first.ladder(75, 0, 9).ladder(1011, 0, 9));
            DUE.be("SKIP by feature", x.block(0, 0, 5), 1);
            FrameWriter next = of(kind, 8);
            next.inUse = true;
            if (kind != 3) {
                next.bits("1");
            }
            Calls.decode(x, next.bits(isStill(kind) ? "00" : "0 00"));
            DUE.be("SKIP behind " + KINDS[kind], x.block(0, 0, 5), 1);
            int read = kind == 3 ? 3 : isStill(kind) ? 3 : 4;
            DUE.be("bits read behind " + KINDS[kind], x.count(4), read);
        }
    }

    /** Two blocks of 8 x 8, the right one lighter by 6: with SHARP 7 a level of 5 filters its edge. */
    private static FrameWriter step(FrameWriter frame, int level) {
        frame.transformMode = 1;
        frame.sharp = 7;
        frame.level = level;
        frame.extrasCount = true;
        return frame.bits("1  1 0 0  0 0 0  1100 0  0 0");
    }

    /** The same picture from a reference of the one that is not filtered. */
    private static FrameWriter copied(int reference, boolean zero, int level) {
        FrameWriter frame = FrameWriter.inter();
        frame.refreshed = 0;
        frame.transformMode = 1;
        frame.sharp = 7;
        frame.level = level;
        frame.extrasCount = true;
        String block = "1 1 " + new String[] {"0", "10", "11"}[reference] + (zero ? " 0" : " 10");
        return frame.bits("1" + block + block);
    }

    private static VideoDecoder withStep() {
        VideoDecoder x = new VideoDecoder();
        Calls.decode(x, step(FrameWriter.key(16, 8), 0));
        DUE.be("step", x.sample(0, 0, 8, 3) - x.sample(0, 0, 7, 3), 6);
        return x;
    }

    private static void due(VideoDecoder x, FrameWriter frame, String name, boolean filtered) {
        Calls.decode(x, frame);
        DUE.be("lines of " + name, x.count(6), filtered ? 8 : 0);
    }

    private static void extrasBecomeWhatTheyWere() {
        DUE.says("STILL or RESILIENT: the EXTRAS of the filter 1, 0, -1, -1 and 0, 0");
        for (int kind = 0; kind < 4; kind++) {
            for (int level = 3; level <= 7; level++) {
                for (int reference = 0; reference < 3; reference++) {
                    for (int other = 0; other < 2; other++) {
                        VideoDecoder x = withStep();
                        Calls.decode(x, telling(20));
                        FrameWriter next = of(kind, 16);
                        next.refreshed = 0;
                        Calls.decode(x, isStill(kind) ? step(next, 0) : next);
                        boolean stay = kind == 3;
                        int due = stay ? level + 40 : level + (reference == 0 ? 0 : -1);
                        due(x, copied(reference, other == 0, level), "REFERENCE " + reference, due >= 5);
                    }
                }
                VideoDecoder x = withStep();
                Calls.decode(x, telling(-20));
                FrameWriter own = step(FrameWriter.intra(16, 8), level);
                due(x, own, "itself", level + 1 >= 5);
            }
        }
    }

    /** Tells all six EXTRAS, and leaves the slots as they are. */
    private static FrameWriter telling(int extra) {
        FrameWriter frame = FrameWriter.inter();
        frame.refreshed = 0;
        frame.extrasCount = true;
        frame.extras = new Integer[] {extra, extra, extra, extra, extra, extra};
        return frame;
    }

    private static void mapOfAnotherSize() {
        DUE.says("the MAP becomes 0, too, if the size is another than that of the FRAME before");
        int[][] sizes = {{8, 8}, {9, 8}, {8, 7}, {16, 8}};
        for (int[] size : sizes) {
            VideoDecoder x = new VideoDecoder();
            FrameWriter side = FrameWriter.intra(size[0], size[1]);
            side.refreshed = 2;
            Calls.decode(x, FrameWriter.key(8, 8).bits("100"));
            Calls.decode(x, side);
            FrameWriter tells = mapped(8);
            tells.inter = true;
            tells.intraOnly = true;
            tells.refreshed = 1;
            Calls.decode(x, tells);
            FrameWriter same = FrameWriter.inter();
            same.references = new int[] {1, 1, 1};
            same.refreshed = 0;
            Calls.decode(x, same);
            FrameWriter back = FrameWriter.inter();
            back.inUse = true;
            Calls.decode(x, back.bits("1 0 0 0"));
            boolean stays = size[0] == 8 && size[1] == 8;
            DUE.be("segment behind " + size[0] + " x " + size[1], x.block(0, 0, 4), stays ? 5 : 0);
        }
    }

    private static void mapBehindAgainAndFaults() {
        DUE.says("the FRAME before (the last one without fault and not AGAIN)");
        VideoDecoder x = new VideoDecoder();
        FrameWriter side = FrameWriter.intra(16, 8);
        side.refreshed = 2;
        Calls.decode(x, side);
        FrameWriter tells = mapped(8);
        tells.inter = true;
        tells.intraOnly = true;
        tells.refreshed = 1;
        Calls.decode(x, tells);
        FrameWriter wrong = FrameWriter.inter();
        wrong.references = new int[] {1, 1, 1};
        wrong.secondLength = 0;
        DUE.be("a wrong one of another size", Calls.decode(x, wrong), -7);
        DUE.be("another size again", Calls.decode(x, FrameWriter.again(1)), 1);
        FrameWriter back = FrameWriter.inter();
        back.inUse = true;
        Calls.decode(x, back.bits("1 0 0 0"));
        DUE.be("segment", x.block(0, 0, 4), 5);
    }

    private static void extrasCountOrNot() {
        DUE.says("1 bit EXTRAS count");
        for (int level = 4; level <= 5; level++) {
            for (int count = 0; count < 2; count++) {
                FrameWriter frame = step(FrameWriter.key(16, 8), level);
                frame.extrasCount = count == 1;
                due(new VideoDecoder(), frame, "itself", level + count >= 5);
            }
        }
        VideoDecoder x = withStep();
        Calls.decode(x, telling(20));
        FrameWriter not = copied(0, true, 4);
        not.extrasCount = false;
        due(x, not, "EXTRAS that do not count", false);
        due(x, copied(0, true, 4), "EXTRAS that stay", true);
    }

    private static void extrasTold() {
        DUE.says("for each of the six EXTRAS 1 bit, and if that is set 6 bits and a sign: its new value");
        for (int told = 0; told < 6; told++) {
            for (int reference = 0; reference < 3; reference++) {
                for (int other = 0; other < 2; other++) {
                    VideoDecoder x = withStep();
                    FrameWriter frame = copied(reference, other == 0, 10);
                    frame.extras = new Integer[6];
                    frame.extras[told] = -9;
                    boolean its = told == 1 + reference || told == 4 + other;
                    due(x, frame, "extra " + told + " at " + reference + ", " + other, !its);
                    due(x, copied(reference, other == 0, 10), "the frame behind it", !its);
                }
            }
        }
    }

    private static void extrasAtTheirLimits() {
        DUE.says("6 bits and a sign (1: negative)");
        for (int extra : new int[] {63, 31, 1, 0, -1, -4, -5, -31, -63}) {
            FrameWriter frame = step(FrameWriter.key(16, 8), 9);
            frame.extras = new Integer[] {extra, null, null, null, null, null};
            due(new VideoDecoder(), frame, "extra " + extra, 9 + extra >= 5);
        }
    }

    private static void deltasDoNotStay() {
        DUE.says("1 bit, and if set 4 bits and a sign: a DELTA (else 0)");
        for (int delta : new int[] {15, 1, -1, -15}) {
            VideoDecoder x = new VideoDecoder();
            FrameWriter first = FrameWriter.key(8, 8);
            first.base = 100;
            first.deltas = new int[] {delta, delta, delta};
            Calls.decode(x, first.bits("100"));
            FrameWriter next = FrameWriter.inter();
            next.base = 100;
            next.transformMode = 1;
            // 9 times the quantiser of index 100: 4 + 100 + 78 = 182, in each plane.
            String nine = " 1 1 1 1110 000 0 0 ";
            Calls.decode(x, next.bits("0 0 0 0" + nine + nine + nine));
            int due = 64 * (64 * 9 * 182 + 64 >> 7) + 2048 >> 12;
            for (int plane = 0; plane < 3; plane++) {
                DUE.be("plane " + plane, x.sample(-1, plane, 2, 1), 128 + due);
            }
        }
    }

    private static void lossless() {
        DUE.says("LOSSLESS: BASE and DELTAS are 0");
        for (int i = 0; i < 6; i++) {
            FrameWriter frame = FrameWriter.key(8, 8);
            frame.base = i == 5 ? 1 : 0;
            if (i < 3) {
                frame.deltas[i] = i == 1 ? -1 : 1;
            }
            frame.tellsZeroDeltas = i == 4;
            frame.transformMode = 1;
            frame.models.put(2940, 9);
            frame.keep = true;
            frame.fixed = true;
            VideoDecoder x = new VideoDecoder();
            Calls.decode(x, frame.bits("100"));
            boolean lossless = i == 3 || i == 4;
            DUE.be("SIZE of case " + i, x.block(0, 0, 6), lossless ? 0 : 1);
            DUE.be("last model", x.model(0, 2940), 9);
        }
    }

    private static void notInUseNothingStaysAway() {
        DUE.says("1 bit in use (if not, nothing more; MAP and features stay)");
        VideoDecoder x = new VideoDecoder();
        FrameWriter first = mapped(8);
        first.featuresTold = true;
        first.features[5][2] = 2;
        Calls.decode(x, first);
        FrameWriter unused = FrameWriter.inter();
        Calls.decodeLearning(DUE, x, unused.m(60, "1").m(1101, "0").ladder(975, 0, 9).ladder(1011, 0, 9));
        DUE.be("segment not in use", x.block(0, 0, 4), 0);
        FrameWriter used = FrameWriter.inter();
        used.inUse = true;
        used.context = 1;
        Calls.decodeLearning(DUE, x, used.m(60, "1").m(1116, "0"));
        DUE.be("segment in use", x.block(0, 0, 4), 5);
        DUE.be("REFERENCE of its feature", x.block(0, 0, 9), 1);
    }

    private static void notInUseHasNoEffect() {
        DUE.says("Segments not in use: their features stay, and do nothing");
        VideoDecoder x = new VideoDecoder();
        FrameWriter first = FrameWriter.key(8, 8);
        first.inUse = true;
        first.featuresTold = true;
        first.features[0] = new Integer[] {-200, 63, 2, 1};
        Calls.decode(x, first.bits("00"));
        FrameWriter unused = FrameWriter.inter();
        Calls.decodeLearning(DUE, x, unused.m(60, "1").m(1101, "0").ladder(975, 0, 9).ladder(1011, 0, 9));
        DUE.be("SKIP", x.block(0, 0, 5), 1);
        DUE.be("mode", x.block(0, 0, 7), 0);
    }

    private static void chancesNotTold() {
        DUE.says("TREE chances (255 without)");
        for (int segment = 0; segment < 8; segment++) {
            VideoDecoder x = new VideoDecoder();
            FrameWriter frame = FrameWriter.key(8, 8);
            frame.inUse = true;
            frame.tree = new int[] {255, 255, 255, 255, 255, 255, 255};
            for (int shift = 2; shift >= 0; shift--) {
                frame.b(255, segment >> shift & 1);
            }
            Calls.decode(x, frame.bits("1").ladder(75, 7, 9).ladder(1074, 4, 9));
            DUE.be("segment", x.block(0, 0, 4), segment);
            DUE.be("mode", x.block(0, 0, 7), 7);
            DUE.be("chroma", x.block(0, 0, 8), 4);
            FrameWriter next = FrameWriter.inter();
            next.inUse = true;
            next.tree = frame.tree;
            next.guesses = new int[] {255, 255, 255};
            Calls.decode(x, next.b(255, 1).bits("1 0 11110 10"));
            DUE.be("segment guessed", x.block(0, 0, 4), segment);
            DUE.be("mode", x.block(0, 0, 7), 4);
            DUE.be("chroma", x.block(0, 0, 8), 1);
        }
    }

    private static void chancesToldAsZero() {
        DUE.says("a chance told as 0 counts as 1, here and in what follows");
        for (int segment = 0; segment < 8; segment++) {
            VideoDecoder x = new VideoDecoder();
            FrameWriter frame = FrameWriter.key(8, 8);
            frame.inUse = true;
            frame.tree = new int[] {0, 0, 0, 0, 0, 0, 0};
            for (int shift = 2; shift >= 0; shift--) {
                frame.b(1, segment >> shift & 1);
            }
            Calls.decode(x, frame.bits("1").ladder(75, 7, 9).ladder(1074, 4, 9));
            DUE.be("segment", x.block(0, 0, 4), segment);
            DUE.be("mode", x.block(0, 0, 7), 7);
            DUE.be("chroma", x.block(0, 0, 8), 4);
            FrameWriter next = FrameWriter.inter();
            next.inUse = true;
            next.tree = frame.tree;
            next.guesses = new int[] {0, 0, 0};
            // Not guessed: the tree follows, which the map then takes.
            Calls.decode(x, next.b(1, 0).b(1, 0).b(1, 1).b(1, 0).bits("1 0 11110 10"));
            DUE.be("segment not guessed", x.block(0, 0, 4), 2);
            DUE.be("mode", x.block(0, 0, 7), 4);
            DUE.be("chroma", x.block(0, 0, 8), 1);
        }
    }

    private static void featuresToldUnsetAll() {
        DUE.says("1 bit features are told: if so all become unset and 0");
        for (int feature = 0; feature < 4; feature++) {
            VideoDecoder x = withStep();
            FrameWriter tells = FrameWriter.inter();
            tells.refreshed = 0;
            tells.inUse = true;
            tells.featuresTold = true;
            tells.absolute = true;
            tells.features[0][feature] = feature == 0 ? 3 : 1;
            Calls.decode(x, tells);
            FrameWriter none = FrameWriter.inter();
            none.refreshed = 0;
            none.inUse = true;
            none.featuresTold = true;
            none.features[7][3] = 1;
            none.level = 20;
            none.transformMode = 1;
            none.m(43, "1").m(60, "1").m(1101, "1").m(1110, "0").m(1116, "0");
            none.m(61, "0").m(1102, "1").m(1112, "0").m(1116, "0");
            // A number of 9 tells the quantiser: 767.
            none.m(1185 + 3 * 36 * 5, "111").m(2913, "1110").l(3, 0).l(1, 0).m(1185 + 3 * (36 * 5 + 6 + 4), "0");
            none.m(1185 + 3 * 36 * 3, "0").m(1185 + 3 * 36 * 3, "0");
            Calls.decodeLearning(DUE, x, none);
            DUE.be("sample", x.sample(-1, 0, 15, 3), 134 + (64 * (64 * 9 * 767 + 64 >> 7) + 2048 >> 12));
        }
    }

    private static void featuresAndAbsoluteStay() {
        DUE.says("Without \"told\" the features and ABSOLUTE stay");
        for (int absolute = 0; absolute < 2; absolute++) {
            VideoDecoder x = withStep();
            FrameWriter tells = FrameWriter.inter();
            tells.refreshed = 0;
            tells.inUse = true;
            tells.featuresTold = true;
            tells.absolute = absolute == 1;
            tells.features[0][1] = 4;
            Calls.decode(x, tells);
            FrameWriter next = copied(0, true, 20);
            next.inUse = true;
            due(x, next, "ABSOLUTE " + absolute, absolute == 0);
            due(x, next, "once more", absolute == 0);
        }
    }
}
